/-! 60.viewY: what a node's share of a form reads and writes: the reference's side -/
section VIEWY
variable {s s' s'' : Nat → Nat → Nat}
/-- the same at node n, and in all that a form's sharing leaves alone, but for the timers -/
def AgY (n : Nat) (s s' : Nat → Nat → Nat) : Prop := (∀ f, f ≠ 3 ∧ f ≠ 4 ∧ f ≠ 6 ∧ f ≠ 7 ∧ f ≠ 8 ∧ f ≠ 9 → s f = s' f) ∧ s 3 n = s' 3 n ∧ s 4 n = s' 4 n ∧ s 9 n = s' 9 n ∧ (∀ m, 1 ≤ m → m ≤ 48 → s 7 (49 * n + m) = s' 7 (49 * n + m)) ∧ (∀ j, j < 48 → s 8 (48 * n + j) = s' 8 (48 * n + j)) ∧ s 10 0 ≤ 48
theorem AgY.refl {n : Nat} (h : s 10 0 ≤ 48) : AgY n s s := ⟨fun _ _ => rfl, rfl, rfl, rfl, fun _ _ _ => rfl, fun _ _ => rfl, h⟩
theorem AgY.symm {n : Nat} (h : AgY n s s') : AgY n s' s := ⟨fun f hf => (h.1 f hf).symm, h.2.1.symm, h.2.2.1.symm, h.2.2.2.1.symm, fun m a b => (h.2.2.2.2.1 m a b).symm, fun j a => (h.2.2.2.2.2.1 j a).symm, by rw [← h.1 10 (by decide)]; exact h.2.2.2.2.2.2⟩
theorem AgY.trans {n : Nat} (h : AgY n s s') (g : AgY n s' s'') : AgY n s s'' := ⟨fun f hf => (h.1 f hf).trans (g.1 f hf), h.2.1.trans g.2.1, h.2.2.1.trans g.2.2.1, h.2.2.2.1.trans g.2.2.2.1, fun m a b => (h.2.2.2.2.1 m a b).trans (g.2.2.2.2.1 m a b), fun j a => (h.2.2.2.2.2.1 j a).trans (g.2.2.2.2.2.1 j a), h.2.2.2.2.2.2⟩
theorem AgY.set {n f v : Nat} (h : AgY n s s') (hf : f = 3 ∨ f = 4) : AgY n (sU s f n v) (sU s' f n v) := by
  obtain ⟨h0, h3, h4, h9, h7, h8, h10⟩ := h
  refine ⟨fun g hg => ?_, sU_eq h3, sU_eq h4, sU_eq h9, fun m a b => ?_, fun j a => ?_, ?_⟩
  · rw [sU_fn (by omega), sU_fn (by omega)]
    exact h0 g hg
  · rw [sU_fn (by omega), sU_fn (by omega)]
    exact h7 m a b
  · rw [sU_fn (by omega), sU_fn (by omega)]
    exact h8 j a
  · rw [sU_fn (by omega)]
    exact h10
theorem AgY.oset {n k f v : Nat} (hf : f = 3 ∨ f = 4) (hk : k ≠ n) (h : s 10 0 ≤ 48) : AgY k s (sU s f n v) := by
  refine ⟨fun g hg => ?_, (sU_nei hk).symm, (sU_nei hk).symm, (sU_nei hk).symm, fun m a b => ?_, fun j a => ?_, h⟩
  · rw [sU_fn (by omega)]
  · rw [sU_fn (by omega)]
  · rw [sU_fn (by omega)]
theorem AgY.app {n e : Nat} (h : AgY n s s') : AgY n (y_app s n e) (y_app s' n e) := by
  obtain ⟨h0, h3, h4, h9, h7, h8, h10⟩ := h
  unfold y_app
  rw [h9]
  refine ⟨fun g hg => ?_, ?_, ?_, ?_, fun m a b => ?_, fun j a => ?_, ?_⟩
  · rw [sU_fn (by omega), sU_fn (by omega), sU_fn (by omega), sU_fn (by omega)]
    exact h0 g hg
  · rw [sU_nef (by decide), sU_nef (by decide), sU_nef (by decide), sU_nef (by decide)]
    exact h3
  · rw [sU_nef (by decide), sU_nef (by decide), sU_nef (by decide), sU_nef (by decide)]
    exact h4
  · rw [sU_same, sU_same]
  · rw [sU_nef (by decide), sU_nef (by decide), sU_nef (by decide), sU_nef (by decide)]
    exact h7 m a b
  · rw [sU_nef (f := 9) (by decide), sU_nef (f := 9) (by decide), sU_app, sU_app, h8 j a]
  · rw [sU_nef (by decide), sU_nef (by decide)]
    exact h10
theorem AgY.oapp {n k e : Nat} (hk : k ≠ n) (h9 : s 9 n < 48) (h : s 10 0 ≤ 48) : AgY k s (y_app s n e) := by
  unfold y_app
  refine ⟨fun g hg => ?_, ?_, ?_, ?_, fun m a b => ?_, fun j a => ?_, h⟩
  · rw [sU_fn (by omega), sU_fn (by omega)]
  · rw [sU_nef (by decide), sU_nef (by decide)]
  · rw [sU_nef (by decide), sU_nef (by decide)]
  · rw [sU_nei hk, sU_nef (by decide)]
  · rw [sU_nef (by decide), sU_nef (by decide)]
  · rw [sU_nef (f := 9) (by decide), sU_nei (by omega)]
theorem AgY.msg {n r q : Nat} (h : AgY n s s') : y_msg s r q = y_msg s' r q := y_msg_keep (h.1 10 (by decide)) (h.1 14 (by decide)) (h.1 15 (by decide))
theorem y_msg_le {r q : Nat} (h : s 10 0 ≤ 48) : y_msg s r q ≤ 48 := by
  unfold y_msg
  rcases fnd_spec (fun m => decide (s 15 m = q ∧ s 14 m = r)) (s 10 0) 1 with h2 | h2 <;> omega
theorem AgY.has {n q : Nat} (h : AgY n s s') : y_has s n q = y_has s' n q := by
  unfold y_has
  rw [h.msg, h.1 2 (by decide)]
  have hl : y_msg s' (s' 2 n) q ≤ 48 := y_msg_le h.symm.2.2.2.2.2.2
  refine decide_eq_decide.mpr ⟨fun z => ⟨z.1, ?_⟩, fun z => ⟨z.1, ?_⟩⟩
  · rw [← h.2.2.2.2.1 _ z.1 hl]
    exact z.2
  · rw [h.2.2.2.2.1 _ z.1 hl]
    exact z.2
theorem AgY.dm {n : Nat} (h : AgY n s s') : y_dm s n = y_dm s' n := by
  unfold y_dm
  rw [h.msg, h.1 2 (by decide), h.2.2.1]
theorem AgY.dl {n : Nat} (h : AgY n s s') : y_dl s n = y_dl s' n := by
  unfold y_dl
  rw [h.dm, h.1 12 (by decide), h.2.1, h.2.2.1]
  have hl : y_dm s' n ≤ 48 := y_msg_le h.symm.2.2.2.2.2.2
  refine decide_eq_decide.mpr ⟨fun z => ⟨z.1, ?_, z.2.2⟩, fun z => ⟨z.1, ?_, z.2.2⟩⟩
  · rw [← h.2.2.2.2.1 _ z.1 hl]
    exact z.2.1
  · rw [h.2.2.2.2.1 _ z.1 hl]
    exact z.2.1
theorem AgY.d1 {n : Nat} (h : AgY n s s') : AgY n (y_d1 s n) (y_d1 s' n) := by
  unfold y_d1
  rw [h.dm, h.2.2.1]
  exact h.app.set (by omega)
theorem AgY.od1 {n k : Nat} (hk : k ≠ n) (h9 : s 9 n < 48) (h : s 10 0 ≤ 48) : AgY k s (y_d1 s n) := by
  have g := AgY.oapp (e := 2 * y_dm s n) hk h9 h
  exact g.trans (AgY.oset (by omega) hk g.symm.2.2.2.2.2.2)
theorem AgY.del {n : Nat} : ∀ (j : Nat) {s s' : Nat → Nat → Nat}, AgY n s s' → y_delOK n j s → AgY n (y_del n j s) (y_del n j s') ∧ y_delOK n j s'
  | 0, _, _, h, _ => ⟨h, trivial⟩
  | j + 1, s, s', h, ok => by
    unfold y_del y_delOK
    unfold y_delOK at ok
    rw [h.dl] at ok ⊢
    by_cases hz : y_dl s' n = true
    · rw [if_pos hz] at ok
      rw [if_pos hz, if_pos hz, if_pos hz]
      have i := AgY.del j h.d1 ok.2.2
      exact ⟨i.1, by rw [← h.2.2.2.1]; exact ok.1, by rw [← h.2.2.1]; exact ok.2.1, i.2⟩
    · rw [if_neg hz, if_neg hz, if_neg hz]
      exact ⟨h, trivial⟩
theorem AgY.odel {n k : Nat} (hk : k ≠ n) : ∀ (j : Nat) {s : Nat → Nat → Nat}, y_delOK n j s → s 10 0 ≤ 48 → AgY k s (y_del n j s)
  | 0, _, _, h => AgY.refl h
  | j + 1, s, ok, h => by
    unfold y_del
    unfold y_delOK at ok
    by_cases hz : y_dl s n = true
    · rw [if_pos hz] at ok ⊢
      have g := AgY.od1 hk ok.1 h
      exact g.trans (AgY.odel hk j ok.2.2 g.symm.2.2.2.2.2.2)
    · rw [if_neg hz]
      exact AgY.refl h
theorem AgY.fa {n i : Nat} (h : AgY n s s') : AgY n (y_fa s n i) (y_fa s' n i) := by
  unfold y_fa
  rw [h.msg, h.1 2 (by decide)]
  exact h.app
theorem AgY.fc {n c i : Nat} {g : Bool} (h : AgY n s s') : y_fc s n c i g = y_fc s' n c i g := by
  unfold y_fc
  rw [h.msg, h.1 2 (by decide), h.1 11 (by decide)]
theorem AgY.fn {n c : Nat} : ∀ (j i : Nat) (g : Bool) {s s' : Nat → Nat → Nat}, AgY n s s' → y_fnOK n c j i g s → AgY n (y_fn n c j i g s) (y_fn n c j i g s') ∧ y_fnOK n c j i g s'
  | 0, _, _, _, _, h, _ => ⟨h, trivial⟩
  | j + 1, i, g, s, s', h, ok => by
    unfold y_fn y_fnOK
    unfold y_fnOK at ok
    rw [h.has, h.fc] at ok ⊢
    by_cases hz : y_has s' n i = true
    · rw [if_pos hz] at ok
      rw [if_pos hz, if_pos hz, if_pos hz]
      by_cases hy : y_fc s' n c i g = true
      · rw [if_pos hy] at ok
        rw [if_pos hy, if_pos hy, if_pos hy]
        have k := AgY.fn j (i + 1) g h.fa ok.2
        exact ⟨k.1, by rw [← h.2.2.2.1]; exact ok.1, k.2⟩
      · rw [if_neg hy] at ok
        rw [if_neg hy, if_neg hy, if_neg hy]
        exact AgY.fn j (i + 1) g h ok
    · rw [if_neg hz] at ok
      rw [if_neg hz, if_neg hz, if_neg hz]
      exact AgY.fn j (i + 1) true h ok
theorem AgY.ofn {n k c : Nat} (hk : k ≠ n) : ∀ (j i : Nat) (g : Bool) {s : Nat → Nat → Nat}, y_fnOK n c j i g s → s 10 0 ≤ 48 → AgY k s (y_fn n c j i g s)
  | 0, _, _, _, _, h => AgY.refl h
  | j + 1, i, g, s, ok, h => by
    unfold y_fn
    unfold y_fnOK at ok
    by_cases hz : y_has s n i = true
    · rw [if_pos hz] at ok ⊢
      by_cases hy : y_fc s n c i g = true
      · rw [if_pos hy] at ok ⊢
        have k1 : AgY k s (y_fa s n i) := AgY.oapp hk ok.1 h
        exact k1.trans (AgY.ofn hk j _ _ ok.2 k1.symm.2.2.2.2.2.2)
      · rw [if_neg hy] at ok ⊢
        exact AgY.ofn hk j _ _ ok h
    · rw [if_neg hz] at ok ⊢
      exact AgY.ofn hk j _ _ ok h
theorem AgY.s2 {n c l : Nat} (h : AgY n s s') (ok : y_s2OK c l n s) : AgY n (y_s2 c l n s) (y_s2 c l n s') ∧ y_s2OK c l n s' := by
  obtain ⟨o1, o2⟩ := ok
  have g := AgY.del 48 (h.set (f := 3) (v := l) (by omega)) o1
  have g1 : AgY n (y_s1 l n s) (y_s1 l n s') := g.1
  have k := g1.fn _ _ _ o2
  unfold y_s2 y_s2OK
  rw [g1.2.2.1] at k ⊢
  exact ⟨k.1, g.2, k.2⟩
theorem AgY.os2 {n k c l : Nat} (hk : k ≠ n) (ok : y_s2OK c l n s) (h : s 10 0 ≤ 48) : AgY k s (y_s2 c l n s) := by
  obtain ⟨o1, o2⟩ := ok
  have g0 : AgY k s (sU s 3 n l) := AgY.oset (by omega) hk h
  have g1 : AgY k (sU s 3 n l) (y_s1 l n s) := AgY.odel hk 48 o1 g0.symm.2.2.2.2.2.2
  exact (g0.trans g1).trans (AgY.ofn hk _ _ _ o2 (g1.symm.2.2.2.2.2.2))
theorem AgY.s3 {c l : Nat} (hs : s 10 0 ≤ 48) (ok : ∀ n, n < 5 → c.testBit n = true → y_s2OK c l n s) : ∀ k, k ≤ 5 → ∀ n, n < 5 → AgY n (if n < k ∧ c.testBit n = true then y_s2 c l n s else s) (y_s3 c l s k)
  | 0, _, n, _ => by
    rw [if_neg (by omega)]
    exact AgY.refl hs
  | k + 1, hk, n, hn => by
    have ih := AgY.s3 hs ok k (by omega)
    rw [y_s3_s]
    by_cases hz : c.testBit k = true
    · rw [if_pos hz]
      have ik := ih k (by omega)
      rw [if_neg (by omega)] at ik
      have k2 := ik.s2 (ok k (by omega) hz)
      by_cases e : n = k
      · subst e
        rw [if_pos ⟨by omega, hz⟩]
        exact k2.1
      · have e1 : (n < k + 1 ∧ c.testBit n = true) ↔ (n < k ∧ c.testBit n = true) := ⟨fun z => ⟨by omega, z.2⟩, fun z => ⟨by omega, z.2⟩⟩
        rw [if_cg e1]
        exact (ih n hn).trans (AgY.os2 e k2.2 ik.symm.2.2.2.2.2.2)
    · rw [if_neg hz]
      have e1 : (n < k + 1 ∧ c.testBit n = true) ↔ (n < k ∧ c.testBit n = true) := ⟨fun z => ⟨by
        have : n ≠ k := fun y => hz (y ▸ z.2)
        omega, z.2⟩, fun z => ⟨by omega, z.2⟩⟩
      rw [if_cg e1]
      exact ih n hn
theorem y_s3_ok {c l : Nat} (hs : s 10 0 ≤ 48) (ok : ∀ n, n < 5 → c.testBit n = true → y_s2OK c l n s) : y_s3OK c l s := by
  intro n hn hz
  have ih := AgY.s3 hs ok n (by omega) n hn
  rw [if_neg (by omega)] at ih
  exact (ih.s2 (ok n hn hz)).2
/-- the sharing of the hold -/
theorem y_sp_fn {c m f : Nat} {o : Bool} (h : f ≠ 7) : ∀ k, y_sp c m o s k f = s f
  | 0 => rfl
  | k + 1 => by rw [y_sp_s, sU_fn h, y_sp_fn h k]
theorem y_sp_at {c m n m' : Nat} {o : Bool} (h1 : 1 ≤ m) (h2 : m ≤ 48) (h3 : 1 ≤ m') (h4 : m' ≤ 48) : ∀ k, y_sp c m o s k 7 (49 * n + m') = if n < k ∧ m' = m ∧ c.testBit n = true then b2 o else s 7 (49 * n + m')
  | 0 => by
    rw [if_neg (by omega)]
    rfl
  | k + 1 => by
    have ih := y_sp_at (c := c) (m := m) (n := n) (m' := m') (o := o) h1 h2 h3 h4 k
    rw [y_sp_s]
    by_cases e : n = k ∧ m' = m
    · obtain ⟨e1, e2⟩ := e
      subst e1
      subst e2
      rw [sU_same, ih, if_neg (show ¬ (n < n ∧ m' = m' ∧ c.testBit n = true) by omega)]
      by_cases hz : c.testBit n = true
      · rw [if_pos hz, if_pos ⟨by omega, rfl, hz⟩]
      · rw [if_neg hz, if_neg (fun z => hz z.2.2)]
    · rw [sU_nei (by omega), ih]
      have e1 : (n < k ∧ m' = m ∧ c.testBit n = true) ↔ (n < k + 1 ∧ m' = m ∧ c.testBit n = true) := ⟨fun z => ⟨by omega, z.2⟩, fun z => ⟨by
        have := z.2.1
        omega, z.2⟩⟩
      rw [if_cg e1]
theorem y_one_keep {c m : Nat} : ∀ k, (∀ n, n < k → c.testBit n = true → s 7 (49 * n + m) = s' 7 (49 * n + m)) → y_one s c m k = y_one s' c m k
  | 0, _ => rfl
  | k + 1, h => by
    rw [y_one_s, y_one_s, y_one_keep k (fun n a b => h n (by omega) b)]
    refine congrArg (fun x => y_one s' c m k || x) ?_
    unfold y_oc
    refine decide_eq_decide.mpr ⟨fun z => ⟨z.1, ?_⟩, fun z => ⟨z.1, ?_⟩⟩
    · rw [← h k (by omega) z.1]
      exact z.2
    · rw [h k (by omega) z.1]
      exact z.2
theorem y_sh_fn {c f : Nat} (h : f ≠ 7) : ∀ k, y_sh c s k f = s f
  | 0 => rfl
  | k + 1 => by rw [y_sh_s, y_sp_fn h, y_sh_fn h k]
theorem y_sh_at {c n m : Nat} (hn : n < 5) (h1 : 1 ≤ m) (h2 : m ≤ 48) : ∀ k, k ≤ 48 → y_sh c s k 7 (49 * n + m) = if m ≤ k ∧ c.testBit n = true then b2 (y_one s c m 5) else s 7 (49 * n + m)
  | 0, _ => by
    rw [if_neg (by omega)]
    rfl
  | k + 1, hk => by
    have ih : ∀ n', n' < 5 → y_sh c s k 7 (49 * n' + m) = if m ≤ k ∧ c.testBit n' = true then b2 (y_one s c m 5) else s 7 (49 * n' + m) := fun n' a => y_sh_at a h1 h2 k (by omega)
    rw [y_sh_s, y_sp_at (by omega) (by omega) h1 h2, ih n hn]
    by_cases e : m = k + 1
    · subst e
      have eo : y_one (y_sh c s k) c (k + 1) 5 = y_one s c (k + 1) 5 := y_one_keep 5 (fun n a _ => by rw [ih n a, if_neg (by omega)])
      rw [eo, if_neg (show ¬ (k + 1 ≤ k ∧ c.testBit n = true) by omega)]
      by_cases hz : c.testBit n = true
      · rw [if_pos ⟨hn, rfl, hz⟩, if_pos ⟨Nat.le_refl _, hz⟩]
      · rw [if_neg (fun z => hz z.2.2), if_neg (fun z => hz z.2)]
    · rw [if_neg (fun z => e z.2.1)]
      have e1 : (m ≤ k ∧ c.testBit n = true) ↔ (m ≤ k + 1 ∧ c.testBit n = true) := ⟨fun z => ⟨by omega, z.2⟩, fun z => ⟨by omega, z.2⟩⟩
      rw [if_cg e1]
/-- the hold of one node of the group, shared -/
def t_h (s : Nat → Nat → Nat) (n c : Nat) : Nat → Nat → Nat := fun f j => if f = 7 ∧ 49 * n + 1 ≤ j ∧ j ≤ 49 * n + 48 then b2 (y_one s c (j - 49 * n) 5) else s f j
theorem t_h_fn {n c f : Nat} (h : f ≠ 7) : t_h s n c f = s f := funext fun _ => if_neg (fun z => h z.1)
theorem t_h_at {n c m : Nat} (h1 : 1 ≤ m) (h2 : m ≤ 48) : t_h s n c 7 (49 * n + m) = b2 (y_one s c m 5) := by
  unfold t_h
  rw [if_pos ⟨rfl, by omega, by omega⟩, show 49 * n + m - 49 * n = m by omega]
theorem t_h_ne {n c m k : Nat} (h1 : 1 ≤ m) (h2 : m ≤ 48) (hk : k ≠ n) : t_h s n c 7 (49 * k + m) = s 7 (49 * k + m) := by
  unfold t_h
  rw [if_neg (by omega)]
theorem AgY.sh {n c : Nat} (hn : n < 5) (hs : s 10 0 ≤ 48) : AgY n (if c.testBit n = true then t_h s n c else s) (y_sh c s 48) := by
  by_cases hz : c.testBit n = true
  · rw [if_pos hz]
    refine ⟨fun f hf => ?_, ?_, ?_, ?_, fun m a b => ?_, fun j a => ?_, ?_⟩
    · rw [t_h_fn (by omega), y_sh_fn (by omega)]
    · rw [t_h_fn (by decide), y_sh_fn (by decide)]
    · rw [t_h_fn (by decide), y_sh_fn (by decide)]
    · rw [t_h_fn (by decide), y_sh_fn (by decide)]
    · rw [t_h_at a b, y_sh_at hn a b 48 (by decide), if_pos ⟨b, hz⟩]
    · rw [t_h_fn (by decide), y_sh_fn (by decide)]
    · rw [t_h_fn (by decide)]
      exact hs
  · rw [if_neg hz]
    refine ⟨fun f hf => ?_, ?_, ?_, ?_, fun m a b => ?_, fun j a => ?_, hs⟩
    · rw [y_sh_fn (by omega)]
    · rw [y_sh_fn (by decide)]
    · rw [y_sh_fn (by decide)]
    · rw [y_sh_fn (by decide)]
    · rw [y_sh_at hn a b 48 (by decide), if_neg (fun z => hz z.2)]
    · rw [y_sh_fn (by decide)]
/-- the same group in states that are the same at its nodes -/
theorem AgY.th {n c : Nat} (hn : n < 5) (hc : c.testBit n = true) (h : ∀ k, k < 5 → c.testBit k = true → AgY k s s') : AgY n (t_h s n c) (t_h s' n c) := by
  obtain ⟨h0, h3, h4, h9, h7, h8, h10⟩ := h n hn hc
  refine ⟨fun f hf => ?_, ?_, ?_, ?_, fun m a b => ?_, fun j a => ?_, ?_⟩
  · rw [t_h_fn (by omega), t_h_fn (by omega)]
    exact h0 f hf
  · rw [t_h_fn (by decide), t_h_fn (by decide)]
    exact h3
  · rw [t_h_fn (by decide), t_h_fn (by decide)]
    exact h4
  · rw [t_h_fn (by decide), t_h_fn (by decide)]
    exact h9
  · rw [t_h_at a b, t_h_at a b, y_one_keep 5 (fun k hk hz => (h k hk hz).2.2.2.2.1 m a b)]
  · rw [t_h_fn (by decide), t_h_fn (by decide)]
    exact h8 j a
  · rw [t_h_fn (by decide)]
    exact h10
theorem y_sl_keep {c : Nat} : ∀ k, k ≤ 5 → (∀ n, n < 5 → c.testBit n = true → AgY n s s') → y_sl s' c k = y_sl s c k
  | 0, _, _ => rfl
  | k + 1, hk, h => by
    rw [y_sl_s, y_sl_s, y_sl_keep k (by omega) h]
    by_cases hz : c.testBit k = true
    · rw [(h k (by omega) hz).2.1]
    · rw [if_neg (fun z => hz z.1), if_neg (fun z => hz z.1)]
theorem y_tog_keep {a r : Nat} (h0 : s 0 = s' 0) (h1 : s 1 = s' 1) (h2 : s 2 = s' 2) : ∀ k, y_tog s a r k = y_tog s' a r k
  | 0 => rfl
  | k + 1 => by rw [y_tog_s, y_tog_s, h0, h1, h2, y_tog_keep h0 h1 h2 k]
theorem y_tog_bit {a r n k : Nat} : (y_tog s a r k).testBit n = decide (n < k ∧ (s 0 n ≠ 0 ∧ s 1 n = a ∧ s 2 n = r)) := or_bits (P := fun n => s 0 n ≠ 0 ∧ s 1 n = a ∧ s 2 n = r) k
/-- the group of node n -/
def y_C (s : Nat → Nat → Nat) (a n : Nat) : Nat := y_tog s a (s 2 n) 5
theorem y_C_bit {a n k : Nat} : (y_C s a n).testBit k = true ↔ (k < 5 ∧ s 0 k ≠ 0 ∧ s 1 k = a ∧ s 2 k = s 2 n) := by
  unfold y_C
  rw [y_tog_bit]
  exact decide_eq_true_iff
/-- what becomes of a node of the form -/
def y_N (a n : Nat) (s : Nat → Nat → Nat) : Nat → Nat → Nat := y_s2 (y_C s a n) (y_sl s (y_C s a n) 5) n (t_h s n (y_C s a n))
def y_NOK (a n : Nat) (s : Nat → Nat → Nat) : Prop := y_s2OK (y_C s a n) (y_sl s (y_C s a n) 5) n (t_h s n (y_C s a n))
/-- one group's share, from a state that is the start's at its nodes -/
theorem AgY.share {a k : Nat} (hs : s 10 0 ≤ 48) (hk : ∀ n, n < 5 → (y_C s a k).testBit n = true → AgY n s s') (hk' : ∀ n, n < 5 → s 0 n ≠ 0 ∧ s 1 n = a → y_NOK a n s) (h10 : s' 10 0 ≤ 48) : y_shareOK s' (y_C s a k) ∧ ∀ n, n < 5 → AgY n (if (y_C s a k).testBit n = true then y_N a n s else s') (y_share s' (y_C s a k)) := by
  have el : y_sl s' (y_C s a k) 5 = y_sl s (y_C s a k) 5 := y_sl_keep 5 (by decide) hk
  have h10' : y_sh (y_C s a k) s' 48 10 0 ≤ 48 := by
    rw [y_sh_fn (by decide)]
    exact h10
  have key : ∀ n, n < 5 → (y_C s a k).testBit n = true → AgY n (y_N a n s) (y_s2 (y_C s a k) (y_sl s (y_C s a k) 5) n (y_sh (y_C s a k) s' 48)) ∧ y_s2OK (y_C s a k) (y_sl s (y_C s a k) 5) n (y_sh (y_C s a k) s' 48) := fun n hn hb => by
    have hb' := y_C_bit.mp hb
    have eC : y_C s a n = y_C s a k := by
      unfold y_C
      rw [hb'.2.2.2]
    have ok := hk' n hn ⟨hb'.2.1, hb'.2.2.1⟩
    unfold y_NOK at ok
    unfold y_N
    rw [eC] at ok ⊢
    have g0 := AgY.sh (s := s') (c := y_C s a k) hn h10
    rw [if_pos hb] at g0
    exact ((AgY.th hn hb hk).trans g0).s2 ok
  refine ⟨?_, fun n hn => ?_⟩
  · unfold y_shareOK
    rw [el]
    exact y_s3_ok h10' (fun n hn hb => (key n hn hb).2)
  · unfold y_share
    rw [el]
    have g := AgY.s3 (l := y_sl s (y_C s a k) 5) h10' (fun n hn hb => (key n hn hb).2) 5 (by decide) n hn
    by_cases hb : (y_C s a k).testBit n = true
    · rw [if_pos hb]
      rw [if_pos ⟨hn, hb⟩] at g
      exact (key n hn hb).1.trans g
    · rw [if_neg hb]
      rw [if_neg (fun z => hb z.2)] at g
      have g0 := AgY.sh (s := s') (c := y_C s a k) hn h10
      rw [if_neg hb] at g0
      exact g0.trans g
end VIEWY
