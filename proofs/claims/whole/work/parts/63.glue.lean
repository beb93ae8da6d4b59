/-! 63.glue: a state whose nodes are each as in a related pair is related; what the entering forgets -/
section GLUE
variable {c : Nat} {σ τ σ' τ' : Nat → Nat → Nat}
theorem Sim.glue (hX : bX σ') (hY : bY τ') (h : ∀ n, n < 5 → ∃ s t, Sim c s t ∧ AgX n s σ' ∧ s 9 = σ' 9 ∧ AgY n t τ' ∧ t 6 = τ' 6) : Sim c σ' τ' := by
  obtain ⟨s0, t0, h0, ax, _, ay, _⟩ := h 0 (by decide)
  have e : ∀ f, f ≠ 3 ∧ f ≠ 4 ∧ f ≠ 6 ∧ f ≠ 7 ∧ f ≠ 8 ∧ f ≠ 9 → τ' f = t0 f := fun f hf => (ay.1 f hf).symm
  have d : ∀ f, f ≠ 2 ∧ f ≠ 4 ∧ f ≠ 6 ∧ f ≠ 7 ∧ f ≠ 9 ∧ (f < 30 ∨ 35 ≤ f) → σ' f = s0 f := fun f hf => (ax.1 f hf).symm
  refine ⟨⟨hX, hY, by rw [e 16 (by decide)]; exact h0.1.2.2.1, by rw [e 16 (by decide)]; exact h0.1.2.2.2⟩, InvM_keep (e _ (by decide)) (e _ (by decide)) (e _ (by decide)) (e _ (by decide)) (e _ (by decide)) (e _ (by decide)) (e _ (by decide)) (e _ (by decide)) h0.2.1, fun n hn => ?_, fun n hn => ?_, RelQ_keep (d _ (by decide)) (fun n hn => d _ (by omega)) (e _ (by decide)) (e _ (by decide)) (e _ (by decide)) (e _ (by decide)) h0.2.2.2.2.1, RelM_keep (d _ (by decide)) (d _ (by decide)) (d _ (by decide)) (d _ (by decide)) (d _ (by decide)) (e _ (by decide)) (e _ (by decide)) (e _ (by decide)) (e _ (by decide)) (e _ (by decide)) (e _ (by decide)) h0.2.2.2.2.2⟩
  · obtain ⟨s, t, hs, _, _, ⟨b0, b3, b4, b9, b7, b8, b10⟩, b6⟩ := h n hn
    obtain ⟨i1, i2, i3⟩ := hs.2.2.1 n hn
    unfold cntB at i3 ⊢
    rw [← b0 0 (by decide), ← b0 2 (by decide), ← b0 10 (by decide), ← b0 14 (by decide), ← b0 15 (by decide), ← b0 16 (by decide), ← b4, ← b9, ← b6]
    refine ⟨i1, fun z m a1 a2 a3 => i2 z m a1 a2 ?_, i3⟩
    rw [b7 m a1 a2]
    exact a3
  · obtain ⟨s, t, hs, ⟨a0, a2, a4, a6, a7, a30⟩, a9, ay', b6⟩ := h n hn
    have ay'' := ay'
    obtain ⟨b0, b3, b4, b9, b7, b8, b10⟩ := ay''
    obtain ⟨i1, i2, i3, i4, i5⟩ := hs.2.2.2.1 n hn
    rw [← a0 1 (by decide), ← a0 5 (by decide), ← a0 8 (by decide), ← a9, ← a2, ← a4, ← a6, ← a7, ← a30, ← b0 0 (by decide), ← b0 1 (by decide), ← b0 2 (by decide), ← b0 5 (by decide), ← b3, ← b4, ← b6, ← b9]
    refine ⟨i1, ⟨i2.1, fun j hj => ?_⟩, fun r hr => ?_, fun hu q => ?_, i5⟩
    · have : s 4 n < 49 := hs.1.1 4 n
      rw [← b8 j (by omega)]
      exact i2.2 j hj
    · obtain ⟨d1, d2, d3, d4⟩ := i3 r hr
      exact ⟨d1, d2, d3, Rg_keep (congrFun (a0 10 (by decide)).symm _) (congrFun (a0 11 (by decide)).symm _) (congrFun (a0 12 (by decide)).symm _) (congrFun (a0 13 (by decide)).symm _) (congrFun (a0 14 (by decide)).symm _) (a0 _ (by omega)).symm (a0 _ (by omega)).symm (b0 _ (by decide)).symm (b0 _ (by decide)).symm (b0 _ (by decide)).symm (congrFun (b0 17 (by decide)).symm _) (congrFun (b0 18 (by decide)).symm _) (congrFun (b0 19 (by decide)).symm _) (fun k _ => congrFun (b0 20 (by decide)).symm _) (congrFun (b0 21 (by decide)).symm _) d4⟩
    · rw [← ay'.has]
      exact i4 hu q
/-- another state in two fields, at some places -/
def ovl (F G : Nat) (Q : Nat → Bool) (P s : Nat → Nat → Nat) : Nat → Nat → Nat := fun f j => if (f = F ∨ f = G) ∧ Q j = true then P f j else s f j
theorem ovl_app {F G f j : Nat} {Q : Nat → Bool} {P s : Nat → Nat → Nat} : ovl F G Q P s f j = if (f = F ∨ f = G) ∧ Q j = true then P f j else s f j := rfl
theorem ovl_fn {F G f : Nat} {Q : Nat → Bool} {P s : Nat → Nat → Nat} (h : f ≠ F ∧ f ≠ G) : ovl F G Q P s f = s f := funext fun _ => if_neg (fun z => z.1.elim h.1 h.2)
theorem ovl_sU {F G f i v : Nat} {Q : Nat → Bool} {P s : Nat → Nat → Nat} (h : f ≠ F ∧ f ≠ G) : sU (ovl F G Q P s) f i v = ovl F G Q P (sU s f i v) := by
  funext g j
  rw [sU_app, ovl_app, ovl_app, sU_app]
  by_cases h1 : (g = F ∨ g = G) ∧ Q j = true
  · rw [if_pos h1, if_pos h1, if_neg (fun z => h1.1.elim (fun y => h.1 (z.1.symm.trans y)) (fun y => h.2 (z.1.symm.trans y)))]
  · rw [if_neg h1, if_neg h1]
/-- the members from k on -/
def Qk (mem k : Nat) : Nat → Bool := fun j => decide (k ≤ j ∧ j < 5) && mem.testBit j
theorem Qk_step {mem k j : Nat} (h : j ≠ k) : Qk mem k j = Qk mem (k + 1) j := by
  unfold Qk
  refine congrArg (fun x => x && mem.testBit j) ?_
  exact decide_eq_decide.mpr (by omega)
theorem Qk_not {mem k : Nat} : Qk mem (k + 1) k = false := by
  unfold Qk
  rw [decide_eq_false (by omega), Bool.false_and]
theorem ovl_two {F G mem k v w : Nat} {P s : Nat → Nat → Nat} : sU (sU (ovl F G (Qk mem k) P s) F k v) G k w = ovl F G (Qk mem (k + 1)) P (sU (sU s F k v) G k w) := by
  funext f j
  rw [sU_app, sU_app, ovl_app, ovl_app, sU_app, sU_app]
  by_cases hj : j = k
  · subst hj
    rw [if_neg (show ¬ ((f = F ∨ f = G) ∧ Qk mem (j + 1) j = true) by rw [Qk_not]; exact fun z => absurd z.2 (by decide))]
    by_cases h1 : f = G
    · have p1 : f = G ∧ j = j := ⟨h1, rfl⟩
      rw [if_pos p1, if_pos p1]
    · have n1 : ¬ (f = G ∧ j = j) := fun z => h1 z.1
      rw [if_neg n1, if_neg n1]
      by_cases h2 : f = F
      · have p2 : f = F ∧ j = j := ⟨h2, rfl⟩
        rw [if_pos p2, if_pos p2]
      · have n2 : ¬ (f = F ∧ j = j) := fun z => h2 z.1
        rw [if_neg n2, if_neg n2, if_neg (fun z => z.1.elim h2 h1)]
  · have n1 : ¬ (f = G ∧ j = k) := fun z => hj z.2
    have n2 : ¬ (f = F ∧ j = k) := fun z => hj z.2
    rw [if_neg n1, if_neg n2, if_neg n1, if_neg n2, Qk_step hj]
theorem ovl_skip {F G mem k : Nat} {P s : Nat → Nat → Nat} (h : ¬ mem.testBit k = true) : ovl F G (Qk mem k) P s = ovl F G (Qk mem (k + 1)) P s := by
  have e : Qk mem k = Qk mem (k + 1) := by
    funext j
    by_cases hj : j = k
    · subst hj
      rw [Qk_not]
      unfold Qk
      rw [eq_false_of_ne_true h, Bool.and_false]
    · exact Qk_step hj
  rw [e]
theorem ovl_5 {F G mem : Nat} {P s : Nat → Nat → Nat} : ovl F G (Qk mem 5) P s = s := by
  funext f j
  rw [ovl_app]
  refine if_neg (fun z => ?_)
  have y := z.2
  unfold Qk at y
  rw [decide_eq_false (by omega), Bool.false_and] at y
  exact absurd y (by decide)
theorem ovl_untok {Q : Nat → Bool} {P s : Nat → Nat → Nat} {n : Nat} : x_untok (ovl 7 9 Q P s) n = ovl 7 9 Q P (x_untok s n) := by
  have e1 : ovl 7 9 Q P s 1 n = s 1 n := by rw [ovl_fn (by decide)]
  cases hr : s 1 n with
  | zero => simp only [x_untok, e1, hr]
  | succ r =>
    have e12 : ovl 7 9 Q P s 12 r = s 12 r := by rw [ovl_fn (by decide)]
    simp only [x_untok, e1, hr, e12]
    by_cases hz : s 12 r = n + 1
    · rw [if_pos hz, if_pos hz, ovl_sU (by decide)]
    · rw [if_neg hz, if_neg hz]
theorem ovl_enter {mem k u : Nat} {P s : Nat → Nat → Nat} : x_enter (ovl 7 9 (Qk mem k) P s) k u = ovl 7 9 (Qk mem (k + 1)) P (x_enter s k u) := by
  unfold x_enter x_leave
  rw [ovl_untok, ovl_sU (by decide), ovl_sU (by decide), ovl_sU (by decide), ovl_two, ovl_sU (by decide)]
theorem ovl_ent {mem u : Nat} {P s : Nat → Nat → Nat} : ∀ k, x_ent mem u (ovl 7 9 (Qk mem 0) P s) k = ovl 7 9 (Qk mem k) P (x_ent mem u s k)
  | 0 => rfl
  | k + 1 => by
    rw [x_ent_s, x_ent_s, ovl_ent k]
    by_cases hz : mem.testBit k = true
    · rw [if_pos hz, if_pos hz, ovl_enter]
    · rw [if_neg hz, if_neg hz, ovl_skip hz]
theorem ovl_zero {r : Nat} {Q : Nat → Bool} {P s : Nat → Nat → Nat} : ∀ k, x_zero r (ovl 7 9 Q P s) k = ovl 7 9 Q P (x_zero r s k)
  | 0 => rfl
  | k + 1 => by rw [x_zero_s, x_zero_s, ovl_zero k, ovl_sU (by omega)]
theorem ovl_ring {u mem : Nat} {Q : Nat → Bool} {P s : Nat → Nat → Nat} : s_ring (ovl 7 9 Q P s) u mem = ovl 7 9 Q P (s_ring s u mem) := by
  have e0 : ovl 7 9 Q P s 0 0 = s 0 0 := by rw [ovl_fn (by decide)]
  unfold s_ring x_ring
  rw [e0, ovl_sU (by decide), ovl_sU (by decide), ovl_sU (by decide), ovl_sU (by decide), ovl_sU (by decide), ovl_sU (by decide), ovl_zero]
theorem x_unf_keep {s s' : Nat → Nat → Nat} (h : s 1 = s' 1) : ∀ j i, x_unf s j i = x_unf s' j i
  | 0, _ => rfl
  | j + 1, i => by
    unfold x_unf
    rw [x_nodes_keep h, x_unf_keep h j]
/-- the class's side: places and timers of the members are forgotten -/
theorem ovl_enterNew {mem : Nat} {P s : Nat → Nat → Nat} : x_enterNew (ovl 7 9 (Qk mem 0) P s) mem = x_enterNew s mem := by
  have eu : x_unused (ovl 7 9 (Qk mem 0) P s) = x_unused s := x_unf_keep (ovl_fn (by decide)) 5 0
  show x_ent mem (x_unused (ovl 7 9 (Qk mem 0) P s)) (s_ring (ovl 7 9 (Qk mem 0) P s) (x_unused (ovl 7 9 (Qk mem 0) P s)) mem) 5 = x_ent mem (x_unused s) (s_ring s (x_unused s) mem) 5
  rw [eu, ovl_ring, ovl_ent, ovl_5]
theorem ovl_cl {n : Nat} {Q : Nat → Bool} {P s : Nat → Nat → Nat} : ∀ k, y_cl n (ovl 4 6 Q P s) k = ovl 4 6 Q P (y_cl n s k)
  | 0 => rfl
  | k + 1 => by rw [y_cl_s, y_cl_s, ovl_cl k, ovl_sU (by decide)]
theorem ovl_ent1 {mem k : Nat} {P s : Nat → Nat → Nat} : y_ent1 (ovl 4 6 (Qk mem k) P s) k = ovl 4 6 (Qk mem (k + 1)) P (y_ent1 s k) := by
  have e2 : ovl 4 6 (Qk mem k) P s 2 = s 2 := ovl_fn (by decide)
  have e16 : ovl 4 6 (Qk mem k) P s 16 = s 16 := ovl_fn (by decide)
  have e17 : ovl 4 6 (Qk mem k) P s 17 = s 17 := ovl_fn (by decide)
  unfold y_ent1 y_clean y_untok
  rw [e2, e16, e17, ovl_sU (by decide), ovl_sU (by decide), ovl_cl, ovl_sU (by decide), ovl_two]
theorem ovl_en {mem : Nat} {P s : Nat → Nat → Nat} : ∀ k, y_en mem (ovl 4 6 (Qk mem 0) P s) k = ovl 4 6 (Qk mem k) P (y_en mem s k)
  | 0 => rfl
  | k + 1 => by
    rw [y_en_s, y_en_s, ovl_en k]
    by_cases hz : mem.testBit k = true
    · rw [if_pos hz, if_pos hz, ovl_ent1]
    · rw [if_neg hz, if_neg hz, ovl_skip hz]
theorem ovl_newR {b w : Nat} {Q : Nat → Bool} {P s : Nat → Nat → Nat} : y_newR (ovl 4 6 Q P s) b w = ovl 4 6 Q P (y_newR s b w) := by
  have e16 : ovl 4 6 Q P s 16 0 = s 16 0 := by rw [ovl_fn (by decide)]
  unfold y_newR
  rw [e16, ovl_sU (by decide), ovl_sU (by decide), ovl_sU (by decide)]
/-- the reference's side -/
theorem ovl_enY {mem w : Nat} {P s : Nat → Nat → Nat} : y_en mem (y_newR (ovl 4 6 (Qk mem 0) P s) mem w) 5 = y_en mem (y_newR s mem w) 5 := by
  rw [ovl_newR, ovl_en, ovl_5]
end GLUE
