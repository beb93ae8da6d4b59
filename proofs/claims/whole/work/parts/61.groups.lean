/-! 61.groups: behind all groups of a form each node is as its own share from the start makes it -/
section GROUPS
variable {s τ : Nat → Nat → Nat}
theorem y_del_fn {n f : Nat} (hf : f ≠ 4 ∧ f ≠ 8 ∧ f ≠ 9) : ∀ (j : Nat) (s : Nat → Nat → Nat), y_del n j s f = s f
  | 0, _ => rfl
  | j + 1, s => by
    unfold y_del
    split
    · rw [y_del_fn hf j]
      unfold y_d1 y_app
      rw [sU_fn hf.1, sU_fn hf.2.2, sU_fn hf.2.1]
    · rfl
theorem y_fn_fn {n c f : Nat} (hf : f ≠ 8 ∧ f ≠ 9) : ∀ (j i : Nat) (g : Bool) (s : Nat → Nat → Nat), y_fn n c j i g s f = s f
  | 0, _, _, _ => rfl
  | j + 1, i, g, s => by
    unfold y_fn
    split
    · split
      · rw [y_fn_fn hf j]
        unfold y_fa y_app
        rw [sU_fn hf.2, sU_fn hf.1]
      · exact y_fn_fn hf j _ _ _
    · exact y_fn_fn hf j _ _ _
theorem y_s2_fn {n c l f : Nat} (hf : f ≠ 3 ∧ f ≠ 4 ∧ f ≠ 7 ∧ f ≠ 8 ∧ f ≠ 9) : y_s2 c l n s f = s f := by
  unfold y_s2 y_s1
  rw [y_fn_fn hf.2.2.2, y_del_fn ⟨hf.2.1, hf.2.2.2⟩, sU_fn hf.1]
theorem y_s3_fn {c l f : Nat} (hf : f ≠ 3 ∧ f ≠ 4 ∧ f ≠ 7 ∧ f ≠ 8 ∧ f ≠ 9) : ∀ k, y_s3 c l s k f = s f
  | 0 => rfl
  | k + 1 => by
    rw [y_s3_s]
    split
    · rw [y_s2_fn hf, y_s3_fn hf k]
    · exact y_s3_fn hf k
theorem y_share_fn {c f : Nat} (hf : f ≠ 3 ∧ f ≠ 4 ∧ f ≠ 7 ∧ f ≠ 8 ∧ f ≠ 9) : y_share s c f = s f := by
  unfold y_share
  rw [y_s3_fn hf, y_sh_fn hf.2.2.1]
theorem y_g_fn {a all f : Nat} (hf : f ≠ 3 ∧ f ≠ 4 ∧ f ≠ 7 ∧ f ≠ 8 ∧ f ≠ 9) : ∀ k, (y_g a all τ k).1 f = τ f
  | 0 => rfl
  | k + 1 => by
    rw [y_g_s]
    split
    · show y_share _ _ f = _
      rw [y_share_fn hf, y_g_fn hf k]
    · exact y_g_fn hf k
theorem y_N_fn {a n f : Nat} (hf : f ≠ 3 ∧ f ≠ 4 ∧ f ≠ 7 ∧ f ≠ 8 ∧ f ≠ 9) : y_N a n s f = s f := by
  unfold y_N
  rw [y_s2_fn hf, t_h_fn hf.2.2.1]
theorem x_n1_fn {r c h l n f : Nat} (hn : n < 5) (hf : f ≠ 2 ∧ f ≠ 4 ∧ f ≠ 6 ∧ f ≠ 7 ∧ (f < 30 ∨ 35 ≤ f)) : x_n1 r c h l n s f = s f := by
  funext j
  unfold x_n1
  rw [x_tr_ne hf.2.1 (by omega), x_l1_ne hf.1 hf.2.1 hf.2.2.1 hf.2.2.2.1 (by omega)]
theorem y_g_inv {a : Nat} (hs : τ 10 0 ≤ 48) (ok : ∀ n, n < 5 → τ 0 n ≠ 0 ∧ τ 1 n = a → y_NOK a n τ) : ∀ k, k ≤ 5 →
    (∀ n, n < 5 → AgY n (if (y_g a (y_all τ a) τ k).2.testBit n = true then y_N a n τ else τ) (y_g a (y_all τ a) τ k).1) ∧
    (∀ n, n < 5 → (y_g a (y_all τ a) τ k).2.testBit n = true → τ 0 n ≠ 0 ∧ τ 1 n = a) ∧
    (∀ n m, n < 5 → m < 5 → (y_g a (y_all τ a) τ k).2.testBit n = true → τ 0 m ≠ 0 → τ 1 m = a → τ 2 m = τ 2 n → (y_g a (y_all τ a) τ k).2.testBit m = true) ∧
    (∀ n, n < k → τ 0 n ≠ 0 ∧ τ 1 n = a → (y_g a (y_all τ a) τ k).2.testBit n = true) ∧
    ∀ n, n < k → y_gc (y_all τ a) n (y_g a (y_all τ a) τ n) = true → y_shareOK (y_g a (y_all τ a) τ n).1 (y_tog (y_g a (y_all τ a) τ n).1 a ((y_g a (y_all τ a) τ n).1 2 n) 5)
  | 0, _ => by
    have z : (y_g a (y_all τ a) τ 0).2 = 0 := rfl
    have z1 : (y_g a (y_all τ a) τ 0).1 = τ := rfl
    rw [z, z1]
    refine ⟨fun n hn => ?_, fun n _ h => ?_, fun n m _ _ h => ?_, fun n h => absurd h (by omega), fun n h => absurd h (by omega)⟩
    · rw [if_neg (by rw [Nat.zero_testBit]; decide)]
      exact AgY.refl hs
    · rw [Nat.zero_testBit] at h
      exact absurd h (by decide)
    · rw [Nat.zero_testBit] at h
      exact absurd h (by decide)
  | k + 1, hk => by
    obtain ⟨iA, iB, iC, iD, iE⟩ := y_g_inv hs ok k (by omega)
    have fn : ∀ f, f ≠ 3 ∧ f ≠ 4 ∧ f ≠ 7 ∧ f ≠ 8 ∧ f ≠ 9 → (y_g a (y_all τ a) τ k).1 f = τ f := fun f hf => y_g_fn hf k
    have e2 : (y_g a (y_all τ a) τ k).1 2 k = τ 2 k := by rw [fn 2 (by decide)]
    have eC : y_tog (y_g a (y_all τ a) τ k).1 a ((y_g a (y_all τ a) τ k).1 2 k) 5 = y_C τ a k := by
      unfold y_C
      rw [e2, y_tog_keep (fn 0 (by decide)) (fn 1 (by decide)) (fn 2 (by decide))]
    have h10 : (y_g a (y_all τ a) τ k).1 10 0 ≤ 48 := by
      rw [fn 10 (by decide)]
      exact hs
    have bit : (y_all τ a).testBit k = true ↔ (τ 0 k ≠ 0 ∧ τ 1 k = a) := by
      rw [y_all_bit, decide_eq_true (show k < 5 by omega), Bool.true_and]
      exact decide_eq_true_iff
    rw [y_g_s, eC]
    by_cases hz : y_gc (y_all τ a) k (y_g a (y_all τ a) τ k) = true
    · rw [if_pos hz]
      have hz' := of_decide_eq_true hz
      have hka := bit.mp hz'.1
      have hC : ∀ n, n < 5 → (y_C τ a k).testBit n = true → AgY n τ (y_g a (y_all τ a) τ k).1 := fun n hn hb => by
        have hb' := y_C_bit.mp hb
        have g := iA n hn
        rw [if_neg (fun z => by
          have := iC n k hn (by omega) z hka.1 hka.2 hb'.2.2.2.symm
          rw [hz'.2] at this
          exact absurd this (by decide))] at g
        exact g
      obtain ⟨sOK, sA⟩ := AgY.share hs hC ok h10
      refine ⟨fun n hn => ?_, fun n hn h => ?_, fun n m hn hm h u1 u2 u3 => ?_, fun n hn h => ?_, fun n hn h => ?_⟩
      · show AgY n (if ((y_g a (y_all τ a) τ k).2 ||| y_C τ a k).testBit n = true then y_N a n τ else τ) (y_share (y_g a (y_all τ a) τ k).1 (y_C τ a k))
        have g := sA n hn
        rw [Nat.testBit_or]
        by_cases hb : (y_C τ a k).testBit n = true
        · rw [if_pos hb] at g
          rw [hb, Bool.or_true, if_pos rfl]
          exact g
        · rw [if_neg hb] at g
          rw [eq_false_of_ne_true hb, Bool.or_false]
          exact (iA n hn).trans g
      · have h : ((y_g a (y_all τ a) τ k).2 ||| y_C τ a k).testBit n = true := h
        rw [Nat.testBit_or, Bool.or_eq_true] at h
        rcases h with h | h
        · exact iB n hn h
        · have := y_C_bit.mp h
          exact ⟨this.2.1, this.2.2.1⟩
      · have h : ((y_g a (y_all τ a) τ k).2 ||| y_C τ a k).testBit n = true := h
        show ((y_g a (y_all τ a) τ k).2 ||| y_C τ a k).testBit m = true
        rw [Nat.testBit_or, Bool.or_eq_true] at h ⊢
        rcases h with h | h
        · exact Or.inl (iC n m hn hm h u1 u2 u3)
        · exact Or.inr (y_C_bit.mpr ⟨hm, u1, u2, u3.trans (y_C_bit.mp h).2.2.2⟩)
      · show ((y_g a (y_all τ a) τ k).2 ||| y_C τ a k).testBit n = true
        rw [Nat.testBit_or, Bool.or_eq_true]
        by_cases e : n = k
        · subst e
          exact Or.inr (y_C_bit.mpr ⟨by omega, h.1, h.2, rfl⟩)
        · exact Or.inl (iD n (by omega) h)
      · by_cases e : n = k
        · subst e
          rw [eC]
          exact sOK
        · exact iE n (by omega) h
    · rw [if_neg hz]
      refine ⟨iA, iB, iC, fun n hn h => ?_, fun n hn h => ?_⟩
      · by_cases e : n = k
        · subst e
          apply Decidable.byContradiction
          intro y
          exact hz (decide_eq_true ⟨bit.mpr h, eq_false_of_ne_true y⟩)
        · exact iD n (by omega) h
      · by_cases e : n = k
        · subst e
          exact absurd h hz
        · exact iE n (by omega) h
/-- the reference behind all groups -/
theorem y_g_end {a : Nat} (hs : τ 10 0 ≤ 48) (ok : ∀ n, n < 5 → τ 0 n ≠ 0 ∧ τ 1 n = a → y_NOK a n τ) : y_gOK a (y_all τ a) τ ∧ ∀ n, n < 5 → AgY n (if (y_all τ a).testBit n = true then y_N a n τ else τ) (y_g a (y_all τ a) τ 5).1 := by
  obtain ⟨iA, iB, _, iD, iE⟩ := y_g_inv hs ok 5 (by decide)
  refine ⟨iE, fun n hn => ?_⟩
  have bit : (y_all τ a).testBit n = true ↔ (τ 0 n ≠ 0 ∧ τ 1 n = a) := by
    rw [y_all_bit, decide_eq_true hn, Bool.true_and]
    exact decide_eq_true_iff
  have e : ((y_all τ a).testBit n = true) ↔ (y_g a (y_all τ a) τ 5).2.testBit n = true := ⟨fun z => iD n hn (bit.mp z), fun z => bit.mpr (iB n hn z)⟩
  rw [if_cg e]
  exact iA n hn
/-- the class behind all groups -/
theorem x_f6_end {mem : Nat} (hb : bX s) (hm : ∀ n, n < 5 → mem.testBit n = true → s 1 n ≠ 0) {n : Nat} (hn : n < 5) : AgX n (if mem.testBit n = true then x_N mem n s else s) (x_f6 mem s 6) := by
  have g := AgX.f6 (mem := mem) (s := s) 6 (by decide) n hn
  have b1 : s 1 n < 7 := hb 1 n
  have e : (mem.testBit n = true ∧ s 1 n ≠ 0 ∧ s 1 n ≤ 6) ↔ mem.testBit n = true := ⟨fun z => z.1, fun z => ⟨z, hm n hn z, by omega⟩⟩
  rw [if_cg e] at g
  exact g
end GROUPS
