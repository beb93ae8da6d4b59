/-! 28.initY: the reference's constructor -/
section INITY
section YARR
variable {l : Launch} {D : va_G} {ty : Nat → ClassId} {base b : Nat} {cc : ByteArray} {nL : Nat} {own : String} {ret : Option FieldType} {nm : String} {R : Room} {Ex : State → Prop} {Qf : List Frame → Array Value → State → State → Prop} {cells slots pc : Nat} {L : List (Option Value)} {st : List Value} {ξ : List va_E}
theorem yk {ξ Ls : List va_E} {x a e : va_E} (hξ : ξ.length = 40) : ((ξ ++ (x :: Ls)) ++ [a]).set 40 e = ξ ++ (e :: (Ls ++ [a])) := by
  rw [List.append_assoc, List.set_append_right _ _ (by omega), hξ]
  rfl
theorem yg {ξ Ls : List va_E} {x a : va_E} (hξ : ξ.length = 40) : ((ξ ++ (x :: Ls)) ++ [a])[40]? = some x := by
  rw [List.append_assoc, List.getElem?_append_right (by omega), hξ]
  rfl
theorem pv_yarr {t n n0 idx kf : Nat} {atype : ArrayType} {fty dty : FieldType} {fs : List Value} {Ls : List va_E} (x0 : (Nat → Int32) ⊕ (Nat → Int64) ⊕ (Nat → UInt32) ⊕ (Nat → UInt64) ⊕ (Nat → Option Nat)) (hξ : ξ.length = 40) (hd : decode cc pc = .ok (.newarray atype, 2)) (hd2 : decode cc (pc + 2) = .ok (.putfield idx, 3)) (hE : ∀ s, Ex s → s.heap.size = base + n0) (hc0 : n0 + cells = 41 + Ls.length) (harr : Cond.arrayClass (newarray.typeOf atype) ∈ pv_T) (hty : newarray.typeOf atype = fty) (htt : ∀ ty, (pv_tys ty)[t]? = some (ty t, fty)) (ha : ∀ cA : ClassId, vp_cell cA (n, x0) = arrV cA n (fun _ => defaultValue fty)) (hx0 : ∀ ad, pv_ta ad x0 = x0) (hn : n < 2 ^ 31) (hbytes : n * componentBytes fty ≤ 536870912) (hc : cells + 1 ≤ R.cells) (hs : slots + n ≤ R.slots)
    (hf : pv_F own idx 4 kf) (hp : pv_FP 4 kf dty true) (hnm1 : nm = "<init>") (hown : pv_own own 4 kf) (hnr : ∀ ad q, narrow dty (pv_tr ad (.ref q)) = pv_tr ad (.ref q)) (hft : ∀ ad q, fits dty (pv_tr ad (.ref q)) = true) (hl9 : kf < fs.length)
    (kk : pv_V l D ty base b cc nL own ret nm R Ex Qf (cells + 1) (slots + n) (pc + 2 + 3) L st (ξ ++ (.inr (4, fs.set kf (.ref (41 + Ls.length + 1))) :: (Ls ++ [.inl (t, n, x0)])))) : pv_V l D ty base b cc nL own ret nm R Ex Qf cells slots pc L (.int (nI n) :: .ref (40 + 1) :: st) (ξ ++ (.inr (4, fs) :: Ls)) := by
  have hlen : (ξ ++ ((.inr (4, fs) : va_E) :: Ls)).length = 41 + Ls.length := by
    rw [List.length_append, List.length_cons, hξ]
    omega
  refine pv_newa x0 hE (by rw [hlen]; exact hc0) harr hty htt ha hx0 hn hbytes hc hs hd ?_
  refine pv_putF hd2 (yg hξ) hf hp hnm1 hown (fun ad => hnr ad _) (fun ad => hft ad _) hl9 ?_
  rw [yk hξ, hlen]
  exact kk
end YARR
variable {l : Launch} {D : va_G} {ty : Nat → ClassId} {base b : Nat} {ρ ξ M : List va_E}
def τz : Nat → Nat → Nat := fun f _ => if f = 17 then 1 else 0
theorem hat : ya_at τz = .inl (0, 520, .inl (fun _ => 0)) := by
  unfold ya_at
  rw [show (fun j => nI (τz 17 j) - 1) = (fun _ => (0 : Int32)) from funext (fun j => by show nI 1 - 1 = 0; decide)]
def y_in (k : Nat) : Nat → Nat → Nat := it (fun n s => sU (sU s 0 n 1) 2 n 1) (sU (sU τz 16 0 1) 19 1 31) k
set_option maxRecDepth 100000 in
set_option maxHeartbeats 1000000 in
theorem k_Y_init {post : List va_E → Prop} (hξ : ξ.length = 40) (kk : post (ξ ++ memY (y_in 5))) : pv_M l D ty base b 1 20 5450 (fun U => U.heap.size = base + (ξ ++ ([.inr (4, dYf)] : List va_E)).length) y_Y_init c_Y_init 2 none [.ref (40 + 1)] (ξ ++ [.inr (4, dYf)]) (pv_QV D ty base b post) := by
  refine pv_enter [some (.ref (40 + 1)), none] (by decide) (fun _ => rfl) (fun _ => Nat.le_of_ble_eq_true rfl) ?_
  have hE : ∀ s : State, s.heap.size = base + (ξ ++ ([.inr (4, dYf)] : List va_E)).length → s.heap.size = base + 41 := fun s h => by rw [h, List.length_append, hξ]; rfl
  refine pv_aload_n d_Y_init_0 rfl rfl ?_
  refine pv_objInit wm_Y_1 wi_objinit wc_objinit (by decide) (by decide) (Nat.le_of_ble_eq_true rfl) d_Y_init_1 ?_
  refine pv_aload_n d_Y_init_4 rfl rfl ?_
  refine pv_iconst d_Y_init_5 (nI 5) (by decide) ?_
  refine pv_yarr (t := 1) (atype := .boolean) (.inl (fun _ => 0)) hξ d_Y_init_6 d_Y_init_8 hE rfl wa_boolean rfl (fun _ => rfl) (fun _ => rfl) (fun _ => rfl) (by decide) (by decide) (by decide) (by decide) ff_Y_7 fp_Y_up rfl fo_Y_up (fun _ _ => rfl) (fun _ _ => rfl) (Nat.le_of_ble_eq_true rfl) ?_
  refine pv_aload_n d_Y_init_11 rfl rfl ?_
  refine pv_iconst d_Y_init_12 (nI 5) (by decide) ?_
  refine pv_yarr (t := 0) (atype := .int) (.inl (fun _ => 0)) hξ d_Y_init_13 d_Y_init_15 hE rfl wa_int rfl (fun _ => rfl) (fun _ => rfl) (fun _ => rfl) (by decide) (by decide) (by decide) (by decide) ff_Y_13 fp_Y_area rfl fo_Y_area (fun _ _ => rfl) (fun _ _ => rfl) (Nat.le_of_ble_eq_true rfl) ?_
  refine pv_aload_n d_Y_init_18 rfl rfl ?_
  refine pv_iconst d_Y_init_19 (nI 5) (by decide) ?_
  refine pv_yarr (t := 0) (atype := .int) (.inl (fun _ => 0)) hξ d_Y_init_20 d_Y_init_22 hE rfl wa_int rfl (fun _ => rfl) (fun _ => rfl) (fun _ => rfl) (by decide) (by decide) (by decide) (by decide) ff_Y_17 fp_Y_ringOf rfl fo_Y_ringOf (fun _ _ => rfl) (fun _ _ => rfl) (Nat.le_of_ble_eq_true rfl) ?_
  refine pv_aload_n d_Y_init_25 rfl rfl ?_
  refine pv_iconst d_Y_init_26 (nI 5) (by decide) ?_
  refine pv_yarr (t := 0) (atype := .int) (.inl (fun _ => 0)) hξ d_Y_init_27 d_Y_init_29 hE rfl wa_int rfl (fun _ => rfl) (fun _ => rfl) (fun _ => rfl) (by decide) (by decide) (by decide) (by decide) ff_Y_20 fp_Y_lineOf rfl fo_Y_lineOf (fun _ _ => rfl) (fun _ _ => rfl) (Nat.le_of_ble_eq_true rfl) ?_
  refine pv_aload_n d_Y_init_32 rfl rfl ?_
  refine pv_iconst d_Y_init_33 (nI 5) (by decide) ?_
  refine pv_yarr (t := 0) (atype := .int) (.inl (fun _ => 0)) hξ d_Y_init_34 d_Y_init_36 hE rfl wa_int rfl (fun _ => rfl) (fun _ => rfl) (fun _ => rfl) (by decide) (by decide) (by decide) (by decide) ff_Y_23 fp_Y_placeOf rfl fo_Y_placeOf (fun _ _ => rfl) (fun _ _ => rfl) (Nat.le_of_ble_eq_true rfl) ?_
  refine pv_aload_n d_Y_init_39 rfl rfl ?_
  refine pv_iconst d_Y_init_40 (nI 5) (by decide) ?_
  refine pv_yarr (t := 0) (atype := .int) (.inl (fun _ => 0)) hξ d_Y_init_41 d_Y_init_43 hE rfl wa_int rfl (fun _ => rfl) (fun _ => rfl) (fun _ => rfl) (by decide) (by decide) (by decide) (by decide) ff_Y_26 fp_Y_deaf rfl fo_Y_deaf (fun _ _ => rfl) (fun _ _ => rfl) (Nat.le_of_ble_eq_true rfl) ?_
  refine pv_aload_n d_Y_init_46 rfl rfl ?_
  refine pv_iconst d_Y_init_47 (nI 5) (by decide) ?_
  refine pv_yarr (t := 0) (atype := .int) (.inl (fun _ => 0)) hξ d_Y_init_48 d_Y_init_50 hE rfl wa_int rfl (fun _ => rfl) (fun _ => rfl) (fun _ => rfl) (by decide) (by decide) (by decide) (by decide) ff_Y_29 fp_Y_timer rfl fo_Y_timer (fun _ _ => rfl) (fun _ _ => rfl) (Nat.le_of_ble_eq_true rfl) ?_
  refine pv_aload_n d_Y_init_53 rfl rfl ?_
  refine pv_sipush d_Y_init_54 (nI 245) (by decide) ?_
  refine pv_yarr (t := 1) (atype := .boolean) (.inl (fun _ => 0)) hξ d_Y_init_57 d_Y_init_59 hE rfl wa_boolean rfl (fun _ => rfl) (fun _ => rfl) (fun _ => rfl) (by decide) (by decide) (by decide) (by decide) ff_Y_32 fp_Y_hold rfl fo_Y_hold (fun _ _ => rfl) (fun _ _ => rfl) (Nat.le_of_ble_eq_true rfl) ?_
  refine pv_aload_n d_Y_init_62 rfl rfl ?_
  refine pv_sipush d_Y_init_63 (nI 240) (by decide) ?_
  refine pv_yarr (t := 0) (atype := .int) (.inl (fun _ => 0)) hξ d_Y_init_66 d_Y_init_68 hE rfl wa_int rfl (fun _ => rfl) (fun _ => rfl) (fun _ => rfl) (by decide) (by decide) (by decide) (by decide) ff_Y_35 fp_Y_logs rfl fo_Y_logs (fun _ _ => rfl) (fun _ _ => rfl) (Nat.le_of_ble_eq_true rfl) ?_
  refine pv_aload_n d_Y_init_71 rfl rfl ?_
  refine pv_iconst d_Y_init_72 (nI 5) (by decide) ?_
  refine pv_yarr (t := 0) (atype := .int) (.inl (fun _ => 0)) hξ d_Y_init_73 d_Y_init_75 hE rfl wa_int rfl (fun _ => rfl) (fun _ => rfl) (fun _ => rfl) (by decide) (by decide) (by decide) (by decide) ff_Y_38 fp_Y_entries rfl fo_Y_entries (fun _ _ => rfl) (fun _ _ => rfl) (Nat.le_of_ble_eq_true rfl) ?_
  refine pv_aload_n d_Y_init_78 rfl rfl ?_
  refine pv_bipush d_Y_init_79 (nI 49) (by decide) ?_
  refine pv_yarr (t := 0) (atype := .int) (.inl (fun _ => 0)) hξ d_Y_init_81 d_Y_init_83 hE rfl wa_int rfl (fun _ => rfl) (fun _ => rfl) (fun _ => rfl) (by decide) (by decide) (by decide) (by decide) ff_Y_41 fp_Y_origin rfl fo_Y_origin (fun _ _ => rfl) (fun _ _ => rfl) (Nat.le_of_ble_eq_true rfl) ?_
  refine pv_aload_n d_Y_init_86 rfl rfl ?_
  refine pv_bipush d_Y_init_87 (nI 49) (by decide) ?_
  refine pv_yarr (t := 1) (atype := .boolean) (.inl (fun _ => 0)) hξ d_Y_init_89 d_Y_init_91 hE rfl wa_boolean rfl (fun _ => rfl) (fun _ => rfl) (fun _ => rfl) (by decide) (by decide) (by decide) (by decide) ff_Y_44 fp_Y_isSafe rfl fo_Y_isSafe (fun _ _ => rfl) (fun _ _ => rfl) (Nat.le_of_ble_eq_true rfl) ?_
  refine pv_aload_n d_Y_init_94 rfl rfl ?_
  refine pv_bipush d_Y_init_95 (nI 49) (by decide) ?_
  refine pv_yarr (t := 1) (atype := .boolean) (.inl (fun _ => 0)) hξ d_Y_init_97 d_Y_init_99 hE rfl wa_boolean rfl (fun _ => rfl) (fun _ => rfl) (fun _ => rfl) (by decide) (by decide) (by decide) (by decide) ff_Y_47 fp_Y_gone rfl fo_Y_gone (fun _ _ => rfl) (fun _ _ => rfl) (Nat.le_of_ble_eq_true rfl) ?_
  refine pv_aload_n d_Y_init_102 rfl rfl ?_
  refine pv_bipush d_Y_init_103 (nI 49) (by decide) ?_
  refine pv_yarr (t := 0) (atype := .int) (.inl (fun _ => 0)) hξ d_Y_init_105 d_Y_init_107 hE rfl wa_int rfl (fun _ => rfl) (fun _ => rfl) (fun _ => rfl) (by decide) (by decide) (by decide) (by decide) ff_Y_50 fp_Y_ringIn rfl fo_Y_ringIn (fun _ _ => rfl) (fun _ _ => rfl) (Nat.le_of_ble_eq_true rfl) ?_
  refine pv_aload_n d_Y_init_110 rfl rfl ?_
  refine pv_bipush d_Y_init_111 (nI 49) (by decide) ?_
  refine pv_yarr (t := 0) (atype := .int) (.inl (fun _ => 0)) hξ d_Y_init_113 d_Y_init_115 hE rfl wa_int rfl (fun _ => rfl) (fun _ => rfl) (fun _ => rfl) (by decide) (by decide) (by decide) (by decide) ff_Y_53 fp_Y_number rfl fo_Y_number (fun _ _ => rfl) (fun _ _ => rfl) (Nat.le_of_ble_eq_true rfl) ?_
  refine pv_aload_n d_Y_init_118 rfl rfl ?_
  refine pv_sipush d_Y_init_119 (nI 520) (by decide) ?_
  refine pv_yarr (t := 0) (atype := .int) (.inl (fun _ => 0)) hξ d_Y_init_122 d_Y_init_124 hE rfl wa_int rfl (fun _ => rfl) (fun _ => rfl) (fun _ => rfl) (by decide) (by decide) (by decide) (by decide) ff_Y_56 fp_Y_at rfl fo_Y_at (fun _ _ => rfl) (fun _ _ => rfl) (Nat.le_of_ble_eq_true rfl) ?_
  refine pv_aload_n d_Y_init_127 rfl rfl ?_
  refine pv_sipush d_Y_init_128 (nI 520) (by decide) ?_
  refine pv_yarr (t := 0) (atype := .int) (.inl (fun _ => 0)) hξ d_Y_init_131 d_Y_init_133 hE rfl wa_int rfl (fun _ => rfl) (fun _ => rfl) (fun _ => rfl) (by decide) (by decide) (by decide) (by decide) ff_Y_59 fp_Y_latest rfl fo_Y_latest (fun _ _ => rfl) (fun _ _ => rfl) (Nat.le_of_ble_eq_true rfl) ?_
  refine pv_aload_n d_Y_init_136 rfl rfl ?_
  refine pv_sipush d_Y_init_137 (nI 520) (by decide) ?_
  refine pv_yarr (t := 0) (atype := .int) (.inl (fun _ => 0)) hξ d_Y_init_140 d_Y_init_142 hE rfl wa_int rfl (fun _ => rfl) (fun _ => rfl) (fun _ => rfl) (by decide) (by decide) (by decide) (by decide) ff_Y_62 fp_Y_memberBits rfl fo_Y_memberBits (fun _ _ => rfl) (fun _ _ => rfl) (Nat.le_of_ble_eq_true rfl) ?_
  refine pv_aload_n d_Y_init_145 rfl rfl ?_
  refine pv_sipush d_Y_init_146 (nI 2600) (by decide) ?_
  refine pv_yarr (t := 0) (atype := .int) (.inl (fun _ => 0)) hξ d_Y_init_149 d_Y_init_151 hE rfl wa_int rfl (fun _ => rfl) (fun _ => rfl) (fun _ => rfl) (by decide) (by decide) (by decide) (by decide) ff_Y_65 fp_Y_marks rfl fo_Y_marks (fun _ _ => rfl) (fun _ _ => rfl) (Nat.le_of_ble_eq_true rfl) ?_
  refine pv_aload_n d_Y_init_154 rfl rfl ?_
  refine pv_sipush d_Y_init_155 (nI 520) (by decide) ?_
  refine pv_yarr (t := 2) (atype := .long) (.inr (.inl (fun _ => 0))) hξ d_Y_init_158 d_Y_init_160 hE rfl wa_long rfl (fun _ => rfl) (fun _ => rfl) (fun _ => rfl) (by decide) (by decide) (by decide) (by decide) ff_Y_68 fp_Y_wanted rfl fo_Y_wanted (fun _ _ => rfl) (fun _ _ => rfl) (Nat.le_of_ble_eq_true rfl) ?_
  refine Eq.mp (congrArg (fun q => pv_V l D ty base b c_Y_init 2 y_Y_init.cls none y_Y_init.name (pv_rm 1 20 5450) (fun U => U.heap.size = base + (ξ ++ ([.inr (4, dYf)] : List va_E)).length) (pv_Qf base 20 5450 (pv_QV D ty base b post)) 20 5450 163 [some (.ref (40 + 1)), none] [] (ξ ++ q)) (show memY τz = _ from by unfold memY; rw [hat]; rfl)) ?_
  refine pv_aload_n d_Y_init_163 rfl rfl ?_
  refine pv_iconst d_Y_init_164 (nI 1) (by decide) ?_
  refine pY_rings d_Y_init_165 ff_Y_72 hξ ?_
  refine pv_aload_n d_Y_init_168 rfl rfl ?_
  refine gY_memberBits d_Y_init_169 ff_Y_62 hξ ?_
  refine pv_iconst d_Y_init_172 (nI 1) (by decide) ?_
  refine pv_bipush d_Y_init_173 (nI 31) (by decide) ?_
  refine sy_memberBits d_Y_init_175 hξ (by decide) ?_
  refine pv_iconst d_Y_init_176 (nI 0) (by decide) ?_
  refine pv_ist1 d_Y_init_177 rfl (by decide) ?_
  show pv_V l D ty base b c_Y_init 2 y_Y_init.cls none y_Y_init.name (pv_rm 1 20 5450) (fun U => U.heap.size = base + (ξ ++ ([.inr (4, dYf)] : List va_E)).length) (pv_Qf base 20 5450 (pv_QV D ty base b post)) 20 5450 178 [some (.ref (40 + 1)), some (.int (nI 0))] [] (ξ ++ memY (y_in 0))
  refine pv_iload_n d_Y_init_178 rfl rfl ?_
  refine pv_iconst d_Y_init_179 (nI 5) (by decide) ?_
  refine pv_icmpN_ge 203 (by decide) d_Y_init_180 (by decide) (by decide) (fun h => by omega) (fun _ => ?_)
  refine pv_aload_n d_Y_init_183 rfl rfl ?_
  refine gY_up d_Y_init_184 ff_Y_7 hξ ?_
  refine pv_iload_n d_Y_init_187 rfl rfl ?_
  refine pv_iconst d_Y_init_188 (nI 1) (by decide) ?_
  refine sy_up d_Y_init_189 hξ (by decide) (nar_b (by decide)) ?_
  refine pv_aload_n d_Y_init_190 rfl rfl ?_
  refine gY_ringOf d_Y_init_191 ff_Y_17 hξ ?_
  refine pv_iload_n d_Y_init_194 rfl rfl ?_
  refine pv_iconst d_Y_init_195 (nI 1) (by decide) ?_
  refine sy_ringOf d_Y_init_196 hξ (by decide) ?_
  refine pv_inc1 d_Y_init_197 rfl (by decide) ?_
  refine pv_goto 178 (by decide) d_Y_init_200 ?_
  show pv_V l D ty base b c_Y_init 2 y_Y_init.cls none y_Y_init.name (pv_rm 1 20 5450) (fun U => U.heap.size = base + (ξ ++ ([.inr (4, dYf)] : List va_E)).length) (pv_Qf base 20 5450 (pv_QV D ty base b post)) 20 5450 178 [some (.ref (40 + 1)), some (.int (nI 1))] [] (ξ ++ memY (y_in 1))
  refine pv_iload_n d_Y_init_178 rfl rfl ?_
  refine pv_iconst d_Y_init_179 (nI 5) (by decide) ?_
  refine pv_icmpN_ge 203 (by decide) d_Y_init_180 (by decide) (by decide) (fun h => by omega) (fun _ => ?_)
  refine pv_aload_n d_Y_init_183 rfl rfl ?_
  refine gY_up d_Y_init_184 ff_Y_7 hξ ?_
  refine pv_iload_n d_Y_init_187 rfl rfl ?_
  refine pv_iconst d_Y_init_188 (nI 1) (by decide) ?_
  refine sy_up d_Y_init_189 hξ (by decide) (nar_b (by decide)) ?_
  refine pv_aload_n d_Y_init_190 rfl rfl ?_
  refine gY_ringOf d_Y_init_191 ff_Y_17 hξ ?_
  refine pv_iload_n d_Y_init_194 rfl rfl ?_
  refine pv_iconst d_Y_init_195 (nI 1) (by decide) ?_
  refine sy_ringOf d_Y_init_196 hξ (by decide) ?_
  refine pv_inc1 d_Y_init_197 rfl (by decide) ?_
  refine pv_goto 178 (by decide) d_Y_init_200 ?_
  show pv_V l D ty base b c_Y_init 2 y_Y_init.cls none y_Y_init.name (pv_rm 1 20 5450) (fun U => U.heap.size = base + (ξ ++ ([.inr (4, dYf)] : List va_E)).length) (pv_Qf base 20 5450 (pv_QV D ty base b post)) 20 5450 178 [some (.ref (40 + 1)), some (.int (nI 2))] [] (ξ ++ memY (y_in 2))
  refine pv_iload_n d_Y_init_178 rfl rfl ?_
  refine pv_iconst d_Y_init_179 (nI 5) (by decide) ?_
  refine pv_icmpN_ge 203 (by decide) d_Y_init_180 (by decide) (by decide) (fun h => by omega) (fun _ => ?_)
  refine pv_aload_n d_Y_init_183 rfl rfl ?_
  refine gY_up d_Y_init_184 ff_Y_7 hξ ?_
  refine pv_iload_n d_Y_init_187 rfl rfl ?_
  refine pv_iconst d_Y_init_188 (nI 1) (by decide) ?_
  refine sy_up d_Y_init_189 hξ (by decide) (nar_b (by decide)) ?_
  refine pv_aload_n d_Y_init_190 rfl rfl ?_
  refine gY_ringOf d_Y_init_191 ff_Y_17 hξ ?_
  refine pv_iload_n d_Y_init_194 rfl rfl ?_
  refine pv_iconst d_Y_init_195 (nI 1) (by decide) ?_
  refine sy_ringOf d_Y_init_196 hξ (by decide) ?_
  refine pv_inc1 d_Y_init_197 rfl (by decide) ?_
  refine pv_goto 178 (by decide) d_Y_init_200 ?_
  show pv_V l D ty base b c_Y_init 2 y_Y_init.cls none y_Y_init.name (pv_rm 1 20 5450) (fun U => U.heap.size = base + (ξ ++ ([.inr (4, dYf)] : List va_E)).length) (pv_Qf base 20 5450 (pv_QV D ty base b post)) 20 5450 178 [some (.ref (40 + 1)), some (.int (nI 3))] [] (ξ ++ memY (y_in 3))
  refine pv_iload_n d_Y_init_178 rfl rfl ?_
  refine pv_iconst d_Y_init_179 (nI 5) (by decide) ?_
  refine pv_icmpN_ge 203 (by decide) d_Y_init_180 (by decide) (by decide) (fun h => by omega) (fun _ => ?_)
  refine pv_aload_n d_Y_init_183 rfl rfl ?_
  refine gY_up d_Y_init_184 ff_Y_7 hξ ?_
  refine pv_iload_n d_Y_init_187 rfl rfl ?_
  refine pv_iconst d_Y_init_188 (nI 1) (by decide) ?_
  refine sy_up d_Y_init_189 hξ (by decide) (nar_b (by decide)) ?_
  refine pv_aload_n d_Y_init_190 rfl rfl ?_
  refine gY_ringOf d_Y_init_191 ff_Y_17 hξ ?_
  refine pv_iload_n d_Y_init_194 rfl rfl ?_
  refine pv_iconst d_Y_init_195 (nI 1) (by decide) ?_
  refine sy_ringOf d_Y_init_196 hξ (by decide) ?_
  refine pv_inc1 d_Y_init_197 rfl (by decide) ?_
  refine pv_goto 178 (by decide) d_Y_init_200 ?_
  show pv_V l D ty base b c_Y_init 2 y_Y_init.cls none y_Y_init.name (pv_rm 1 20 5450) (fun U => U.heap.size = base + (ξ ++ ([.inr (4, dYf)] : List va_E)).length) (pv_Qf base 20 5450 (pv_QV D ty base b post)) 20 5450 178 [some (.ref (40 + 1)), some (.int (nI 4))] [] (ξ ++ memY (y_in 4))
  refine pv_iload_n d_Y_init_178 rfl rfl ?_
  refine pv_iconst d_Y_init_179 (nI 5) (by decide) ?_
  refine pv_icmpN_ge 203 (by decide) d_Y_init_180 (by decide) (by decide) (fun h => by omega) (fun _ => ?_)
  refine pv_aload_n d_Y_init_183 rfl rfl ?_
  refine gY_up d_Y_init_184 ff_Y_7 hξ ?_
  refine pv_iload_n d_Y_init_187 rfl rfl ?_
  refine pv_iconst d_Y_init_188 (nI 1) (by decide) ?_
  refine sy_up d_Y_init_189 hξ (by decide) (nar_b (by decide)) ?_
  refine pv_aload_n d_Y_init_190 rfl rfl ?_
  refine gY_ringOf d_Y_init_191 ff_Y_17 hξ ?_
  refine pv_iload_n d_Y_init_194 rfl rfl ?_
  refine pv_iconst d_Y_init_195 (nI 1) (by decide) ?_
  refine sy_ringOf d_Y_init_196 hξ (by decide) ?_
  refine pv_inc1 d_Y_init_197 rfl (by decide) ?_
  refine pv_goto 178 (by decide) d_Y_init_200 ?_
  show pv_V l D ty base b c_Y_init 2 y_Y_init.cls none y_Y_init.name (pv_rm 1 20 5450) (fun U => U.heap.size = base + (ξ ++ ([.inr (4, dYf)] : List va_E)).length) (pv_Qf base 20 5450 (pv_QV D ty base b post)) 20 5450 178 [some (.ref (40 + 1)), some (.int (nI 5))] [] (ξ ++ memY (y_in 5))
  refine pv_iload_n d_Y_init_178 rfl rfl ?_
  refine pv_iconst d_Y_init_179 (nI 5) (by decide) ?_
  refine pv_icmpN_ge 203 (by decide) d_Y_init_180 (by decide) (by decide) (fun _ => ?_) (fun h => by omega)
  exact pv_vret d_Y_init_203 kk
end INITY
