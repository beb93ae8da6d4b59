/-! 07.num: the arithmetic of small numbers, over pv_V -/
section NUM
theorem nx_or (a b : Nat) : nI a ||| nI b = nI (a ||| b) := by
  apply Int32.toBitVec_inj.1
  show BitVec.ofNat 32 a ||| BitVec.ofNat 32 b = BitVec.ofNat 32 (a ||| b)
  apply BitVec.eq_of_getLsbD_eq
  intro i hi
  simp [hi]
theorem nu_shl1 {k : Nat} (hk : k < 31) : nI 1 <<< (nI k &&& 31) = nI (2 ^ k) := by
  have h := pk_shlN (n := 1) (nI k &&& 31) k (s_l k (by omega)) (by
    have := Nat.pow_lt_pow_right (a := 2) (by decide) (show k < 32 by omega)
    omega)
  rw [h, Nat.one_mul]
theorem nu_shr {a k : Nat} (ha : a < 2 ^ 31) (hk : k < 32) : nI a >>> (nI k &&& 31) = nI (a / 2 ^ k) := pk_shrN ha (nI k &&& 31) k (s_l k hk)
theorem lu_and (a b : Nat) : lN a &&& lN b = lN (a &&& b) := by
  apply Int64.toBitVec_inj.1
  show BitVec.ofNat 64 a &&& BitVec.ofNat 64 b = BitVec.ofNat 64 (a &&& b)
  apply BitVec.eq_of_getLsbD_eq
  intro i hi
  simp [hi]
theorem lu_or (a b : Nat) : lN a ||| lN b = lN (a ||| b) := by
  apply Int64.toBitVec_inj.1
  show BitVec.ofNat 64 a ||| BitVec.ofNat 64 b = BitVec.ofNat 64 (a ||| b)
  apply BitVec.eq_of_getLsbD_eq
  intro i hi
  simp [hi]
theorem lu_shl1 {k : Nat} (hk : k < 64) : lN 1 <<< ((nI k).toInt64 &&& 63) = lN (2 ^ k) := by
  rw [wb_shl 1 hk, Nat.one_mul]
theorem lu_not (a b : Nat) : lN a &&& (lN b ^^^ (-1)) = lN (a ^^^ (a &&& b)) := by
  apply Int64.toBitVec_inj.1
  show BitVec.ofNat 64 a &&& (BitVec.ofNat 64 b ^^^ BitVec.allOnes 64) = BitVec.ofNat 64 (a ^^^ (a &&& b))
  apply BitVec.eq_of_getLsbD_eq
  intro i hi
  simp only [BitVec.getLsbD_and, BitVec.getLsbD_xor, BitVec.getLsbD_ofNat, BitVec.getLsbD_allOnes, hi, decide_true, Bool.true_and, Nat.testBit_xor, Nat.testBit_and]
  cases a.testBit i <;> cases b.testBit i <;> rfl
theorem lu_cmp {x y : Int64} : lg_cmp x y = 0 ↔ x = y := by
  unfold lg_cmp
  by_cases h1 : x > y
  · rw [if_pos h1]
    constructor
    · intro h
      exact absurd h (by decide)
    · intro h
      subst h
      exact absurd h1 (Int64.lt_irrefl)
  · rw [if_neg h1]
    by_cases h2 : x = y
    · simp [h2]
    · simp [h2]
theorem lu_eq {a b : Nat} (ha : a < 2 ^ 63) (hb : b < 2 ^ 63) : lg_cmp (lN a) (lN b) = 0 ↔ a = b := by rw [lu_cmp]; exact pk_lEQ ha hb
theorem tb_and {a q : Nat} : a &&& 2 ^ q = 0 ↔ a.testBit q = false := by
  constructor
  · intro h
    have h1 : (a &&& 2 ^ q).testBit q = false := by rw [h]; simp
    simpa using h1
  · intro h
    apply Nat.eq_of_testBit_eq
    intro i
    by_cases hi : i = q
    · subst hi
      simp [h]
    · simp [Nat.testBit_two_pow_of_ne (Ne.symm hi)]
theorem tb_div {a q : Nat} : a / 2 ^ q &&& 1 = 1 ↔ a.testBit q = true := by
  rw [Nat.testBit_eq_decide_div_mod_eq, Nat.and_one_is_mod]
  simp
theorem tb_div0 {a q : Nat} : a / 2 ^ q &&& 1 = (if a.testBit q = true then 1 else 0) := by
  rw [Nat.testBit_eq_decide_div_mod_eq, Nat.and_one_is_mod]
  have : a / 2 ^ q % 2 = 0 ∨ a / 2 ^ q % 2 = 1 := by omega
  rcases this with h | h <;> simp [h]
theorem and_lt_pow {a b k : Nat} (h : b < 2 ^ k) : a &&& b < 2 ^ k := Nat.lt_of_le_of_lt Nat.and_le_right h
variable {l : Launch} {D : va_G} {ty : Nat → ClassId} {base b : Nat} {cc : ByteArray} {nL : Nat} {own : String} {ret : Option FieldType} {nm : String} {R : Room} {Ex : State → Prop} {Qf : List Frame → Array Value → State → State → Prop} {cells slots pc : Nat} {L : List (Option Value)} {st : List Value} {M : List va_E}
theorem pv_iaddN {x y : Nat} (hd : decode cc pc = .ok (.iadd, 1)) (k : pv_V l D ty base b cc nL own ret nm R Ex Qf cells slots (pc + 1) L (.int (nI (x + y)) :: st) M) : pv_V l D ty base b cc nL own ret nm R Ex Qf cells slots pc L (.int (nI y) :: .int (nI x) :: st) M := pv_iadd hd ((nI_add x y).symm ▸ k)
theorem pv_imulN {x y : Nat} (hd : decode cc pc = .ok (.imul, 1)) (k : pv_V l D ty base b cc nL own ret nm R Ex Qf cells slots (pc + 1) L (.int (nI (x * y)) :: st) M) : pv_V l D ty base b cc nL own ret nm R Ex Qf cells slots pc L (.int (nI y) :: .int (nI x) :: st) M := pv_imul hd ((pk_mul x y).symm ▸ k)
theorem pv_isubN {x y : Nat} (hd : decode cc pc = .ok (.isub, 1)) (h : y ≤ x) (k : pv_V l D ty base b cc nL own ret nm R Ex Qf cells slots (pc + 1) L (.int (nI (x - y)) :: st) M) : pv_V l D ty base b cc nL own ret nm R Ex Qf cells slots pc L (.int (nI y) :: .int (nI x) :: st) M := pv_isub hd ((pk_sub h).symm ▸ k)
theorem pv_iandN {x y : Nat} (hd : decode cc pc = .ok (.iand, 1)) (k : pv_V l D ty base b cc nL own ret nm R Ex Qf cells slots (pc + 1) L (.int (nI (x &&& y)) :: st) M) : pv_V l D ty base b cc nL own ret nm R Ex Qf cells slots pc L (.int (nI y) :: .int (nI x) :: st) M := pv_iand hd ((nx_and x y).symm ▸ k)
theorem pv_iorN {x y : Nat} (hd : decode cc pc = .ok (.ior, 1)) (k : pv_V l D ty base b cc nL own ret nm R Ex Qf cells slots (pc + 1) L (.int (nI (x ||| y)) :: st) M) : pv_V l D ty base b cc nL own ret nm R Ex Qf cells slots pc L (.int (nI y) :: .int (nI x) :: st) M := pv_ior hd ((nx_or x y).symm ▸ k)
theorem pv_ishrN {x y : Nat} (hd : decode cc pc = .ok (.ishr, 1)) (h1 : x < 2 ^ 31) (h2 : y < 32) (k : pv_V l D ty base b cc nL own ret nm R Ex Qf cells slots (pc + 1) L (.int (nI (x / 2 ^ y)) :: st) M) : pv_V l D ty base b cc nL own ret nm R Ex Qf cells slots pc L (.int (nI y) :: .int (nI x) :: st) M := pv_ishr hd ((nu_shr h1 h2).symm ▸ k)
theorem pv_ishl1 {y : Nat} (hd : decode cc pc = .ok (.ishl, 1)) (h : y < 31) (k : pv_V l D ty base b cc nL own ret nm R Ex Qf cells slots (pc + 1) L (.int (nI (2 ^ y)) :: st) M) : pv_V l D ty base b cc nL own ret nm R Ex Qf cells slots pc L (.int (nI y) :: .int (nI 1) :: st) M := pv_ishl hd ((nu_shl1 h).symm ▸ k)
theorem pv_iremN {x y : Nat} (hd : decode cc pc = .ok (.irem, 1)) (h1 : x < 2 ^ 31) (h2 : 0 < y) (h3 : y < 2 ^ 31) (k : pv_V l D ty base b cc nL own ret nm R Ex Qf cells slots (pc + 1) L (.int (nI (x % y)) :: st) M) : pv_V l D ty base b cc nL own ret nm R Ex Qf cells slots pc L (.int (nI y) :: .int (nI x) :: st) M := pv_irem hd (nI_ne0 h2 h3) ((pk_rem h1 h2 h3).symm ▸ k)
theorem pv_landN {x y : Nat} (hd : decode cc pc = .ok (.land, 1)) (k : pv_V l D ty base b cc nL own ret nm R Ex Qf cells slots (pc + 1) L (.long (lN (x &&& y)) :: st) M) : pv_V l D ty base b cc nL own ret nm R Ex Qf cells slots pc L (.long (lN y) :: .long (lN x) :: st) M := pv_land hd ((lu_and x y).symm ▸ k)
theorem pv_lorN {x y : Nat} (hd : decode cc pc = .ok (.lor, 1)) (k : pv_V l D ty base b cc nL own ret nm R Ex Qf cells slots (pc + 1) L (.long (lN (x ||| y)) :: st) M) : pv_V l D ty base b cc nL own ret nm R Ex Qf cells slots pc L (.long (lN y) :: .long (lN x) :: st) M := pv_lor hd ((lu_or x y).symm ▸ k)
theorem pv_landC {x y : Nat} (hd : decode cc pc = .ok (.land, 1)) (k : pv_V l D ty base b cc nL own ret nm R Ex Qf cells slots (pc + 1) L (.long (lN (x ^^^ (x &&& y))) :: st) M) : pv_V l D ty base b cc nL own ret nm R Ex Qf cells slots pc L (.long (lN y ^^^ (-1)) :: .long (lN x) :: st) M := pv_land hd ((lu_not x y).symm ▸ k)
theorem pv_lshl1 {y : Nat} (hd : decode cc pc = .ok (.lshl, 1)) (h : y < 64) (k : pv_V l D ty base b cc nL own ret nm R Ex Qf cells slots (pc + 1) L (.long (lN (2 ^ y)) :: st) M) : pv_V l D ty base b cc nL own ret nm R Ex Qf cells slots pc L (.int (nI y) :: .long (lN 1) :: st) M := pv_lshl hd ((lu_shl1 h).symm ▸ k)
theorem pv_lshrN {x y : Nat} (hd : decode cc pc = .ok (.lshr, 1)) (h1 : x < 2 ^ 62) (h2 : y < 64) (k : pv_V l D ty base b cc nL own ret nm R Ex Qf cells slots (pc + 1) L (.long (lN (x / 2 ^ y)) :: st) M) : pv_V l D ty base b cc nL own ret nm R Ex Qf cells slots pc L (.int (nI y) :: .long (lN x) :: st) M := pv_lshr hd (by rw [pf_shr (a := x) (d := y) (by rw [wb_c y h2, wb_tb, wb_sm y h2, BitVec.toNat_ofNat, Nat.mod_eq_of_lt (by omega)]) h1]; exact k)
theorem pv_l2iN {x : Nat} (hd : decode cc pc = .ok (.l2i, 1)) (k : pv_V l D ty base b cc nL own ret nm R Ex Qf cells slots (pc + 1) L (.int (nI x) :: st) M) : pv_V l D ty base b cc nL own ret nm R Ex Qf cells slots pc L (.long (lN x) :: st) M := pv_l2i hd ((lN_i x).symm ▸ k)
theorem pv_lcmp_eq {x y : Nat} {off : Int} (tgt : Nat) (hd : decode cc pc = .ok (.lcmp, 1)) (hd2 : decode cc (pc + 1) = .ok (.ifCond .eq off, 3)) (ht : ((pc + 1 : Nat) : Int) + off = (tgt : Int)) (h1 : x < 2 ^ 63) (h2 : y < 2 ^ 63) (k1 : (x = y) → pv_V l D ty base b cc nL own ret nm R Ex Qf cells slots tgt L st M) (k2 : (¬ x = y) → pv_V l D ty base b cc nL own ret nm R Ex Qf cells slots (pc + 1 + 3) L st M) : pv_V l D ty base b cc nL own ret nm R Ex Qf cells slots pc L (.long (lN y) :: .long (lN x) :: st) M := pv_lcmp hd (pv_if_eq tgt ht hd2 (fun h => k1 ((lu_eq h1 h2).mp h)) (fun h => k2 (fun z => h ((lu_eq h1 h2).mpr z))))
theorem pv_lcmp_ne {x y : Nat} {off : Int} (tgt : Nat) (hd : decode cc pc = .ok (.lcmp, 1)) (hd2 : decode cc (pc + 1) = .ok (.ifCond .ne off, 3)) (ht : ((pc + 1 : Nat) : Int) + off = (tgt : Int)) (h1 : x < 2 ^ 63) (h2 : y < 2 ^ 63) (k1 : (¬ x = y) → pv_V l D ty base b cc nL own ret nm R Ex Qf cells slots tgt L st M) (k2 : (x = y) → pv_V l D ty base b cc nL own ret nm R Ex Qf cells slots (pc + 1 + 3) L st M) : pv_V l D ty base b cc nL own ret nm R Ex Qf cells slots pc L (.long (lN y) :: .long (lN x) :: st) M := pv_lcmp hd (pv_if_ne tgt ht hd2 (fun h => k1 (fun z => h ((lu_eq h1 h2).mpr z))) (fun h => k2 ((lu_eq h1 h2).mp h)))
theorem pv_ifN_eq {x : Nat} {off : Int} (tgt : Nat) (ht : (pc : Int) + off = (tgt : Int)) (hd : decode cc pc = .ok (.ifCond .eq off, 3)) (hx : x < 2 ^ 31) (k1 : (x = 0) → pv_V l D ty base b cc nL own ret nm R Ex Qf cells slots tgt L st M) (k2 : (¬ x = 0) → pv_V l D ty base b cc nL own ret nm R Ex Qf cells slots (pc + 3) L st M) : pv_V l D ty base b cc nL own ret nm R Ex Qf cells slots pc L (.int (nI x) :: st) M := pv_if_eq tgt ht hd (fun h => k1 ((nI_eq hx (by decide)).mp h)) (fun h => k2 (fun z => h (by rw [z]; rfl)))
theorem pv_ifN_ne {x : Nat} {off : Int} (tgt : Nat) (ht : (pc : Int) + off = (tgt : Int)) (hd : decode cc pc = .ok (.ifCond .ne off, 3)) (hx : x < 2 ^ 31) (k1 : (¬ x = 0) → pv_V l D ty base b cc nL own ret nm R Ex Qf cells slots tgt L st M) (k2 : (x = 0) → pv_V l D ty base b cc nL own ret nm R Ex Qf cells slots (pc + 3) L st M) : pv_V l D ty base b cc nL own ret nm R Ex Qf cells slots pc L (.int (nI x) :: st) M := pv_if_ne tgt ht hd (fun h => k1 (fun z => h (by rw [z]; rfl))) (fun h => k2 ((nI_eq hx (by decide)).mp h))
theorem pv_ifN_le {x : Nat} {off : Int} (tgt : Nat) (ht : (pc : Int) + off = (tgt : Int)) (hd : decode cc pc = .ok (.ifCond .le off, 3)) (hx : x < 2 ^ 31) (k1 : (x = 0) → pv_V l D ty base b cc nL own ret nm R Ex Qf cells slots tgt L st M) (k2 : (0 < x) → pv_V l D ty base b cc nL own ret nm R Ex Qf cells slots (pc + 3) L st M) : pv_V l D ty base b cc nL own ret nm R Ex Qf cells slots pc L (.int (nI x) :: st) M := pv_if_le tgt ht hd (fun h => k1 (Nat.eq_zero_of_not_pos (fun z => nI_nle z hx h))) (fun h => k2 (Nat.pos_of_ne_zero (fun z => h (by rw [z]; decide))))
theorem pv_ifN_gt {x : Nat} {off : Int} (tgt : Nat) (ht : (pc : Int) + off = (tgt : Int)) (hd : decode cc pc = .ok (.ifCond .gt off, 3)) (hx : x < 2 ^ 31) (k1 : (0 < x) → pv_V l D ty base b cc nL own ret nm R Ex Qf cells slots tgt L st M) (k2 : (x = 0) → pv_V l D ty base b cc nL own ret nm R Ex Qf cells slots (pc + 3) L st M) : pv_V l D ty base b cc nL own ret nm R Ex Qf cells slots pc L (.int (nI x) :: st) M := pv_if_gt tgt ht hd (fun h => k1 (Nat.pos_of_ne_zero (fun z => by rw [z] at h; exact absurd h (by decide)))) (fun h => k2 (Nat.eq_zero_of_not_pos (fun z => h (by have := nI_lt z hx; exact this))))
theorem nI_max {x y : Nat} (hx : x < 2 ^ 31) (hy : y < 2 ^ 31) : (if nI x < nI y then nI y else nI x) = nI (max x y) := by
  by_cases h : x < y
  · rw [if_pos (nI_lt h hy), Nat.max_eq_right (Nat.le_of_lt h)]
  · rw [if_neg (nI_nlt (Nat.not_lt.mp h) hx), Nat.max_eq_left (Nat.not_lt.mp h)]
theorem nI_min {x y : Nat} (hx : x < 2 ^ 31) (hy : y < 2 ^ 31) : (if nI y < nI x then nI y else nI x) = nI (min x y) := by
  by_cases h : y < x
  · rw [if_pos (nI_lt h hx), Nat.min_eq_right (Nat.le_of_lt h)]
  · rw [if_neg (nI_nlt (Nat.not_lt.mp h) hy), Nat.min_eq_left (Nat.not_lt.mp h)]
theorem pv_mmaxN {idx x y : Nat} (hd : decode cc pc = .ok (.invokestatic idx, 3)) (hlk : Cond.methodLink own idx Lib.Math.max.name ∈ pv_T) (hst : Cond.static Lib.Math.max.name ∈ pv_T) (hini : Cond.initialized "java/lang/Math" ∈ pv_T) (hco : Cond.code Lib.Math.max.name Lib.Math.max.code 2 (some .int) ∈ pv_T) (hR : 1 ≤ R.frames) (hR2 : 21 ≤ R.locals) (hw : (st.map fun v => v.category).sum ≤ 8) (hc : cells ≤ R.cells) (hs : slots ≤ R.slots) (hx : x < 2 ^ 31) (hy : y < 2 ^ 31) (kk : pv_V l D ty base b cc nL own ret nm R Ex Qf cells slots (pc + 3) L (.int (nI (max x y)) :: st) M) : pv_V l D ty base b cc nL own ret nm R Ex Qf cells slots pc L (.int (nI y) :: .int (nI x) :: st) M := pv_mmax hlk hst hini hco hR hR2 hw hc hs hd (by rw [nI_max hx hy]; exact kk)
theorem pv_mminN {idx x y : Nat} (hd : decode cc pc = .ok (.invokestatic idx, 3)) (hlk : Cond.methodLink own idx Lib.Math.min.name ∈ pv_T) (hst : Cond.static Lib.Math.min.name ∈ pv_T) (hini : Cond.initialized "java/lang/Math" ∈ pv_T) (hco : Cond.code Lib.Math.min.name Lib.Math.min.code 2 (some .int) ∈ pv_T) (hR : 1 ≤ R.frames) (hR2 : 21 ≤ R.locals) (hw : (st.map fun v => v.category).sum ≤ 8) (hc : cells ≤ R.cells) (hs : slots ≤ R.slots) (hx : x < 2 ^ 31) (hy : y < 2 ^ 31) (kk : pv_V l D ty base b cc nL own ret nm R Ex Qf cells slots (pc + 3) L (.int (nI (min x y)) :: st) M) : pv_V l D ty base b cc nL own ret nm R Ex Qf cells slots pc L (.int (nI y) :: .int (nI x) :: st) M := pv_mmin hlk hst hini hco hR hR2 hw hc hs hd (by rw [nI_min hx hy]; exact kk)
end NUM
