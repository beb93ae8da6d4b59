/-! 03.calls: new cells, calls, the entry and the end of a method, over pv_V -/
section PVC
theorem pv_RA_inj {s : State} {c1 c2 : ClassId} {t : FieldType} (h1 : va_RA s c1 t) (h2 : va_RA s c2 t) : c1 = c2 := by
  cases t with
  | object C =>
    obtain ⟨_, _, _, _, _, a⟩ := h1
    obtain ⟨_, _, _, _, _, b⟩ := h2
    exact Option.some.inj (a.symm.trans b)
  | _ => exact Option.some.inj (Eq.trans (Eq.symm h1) h2)
theorem pv_fresh {D : va_G} {ty : Nat → ClassId} {base b q : Nat} {e : va_E} {H1 : Heap} {M : List va_E} (hP1 : va_P D pv_cl (pv_w ty base b M ++ [(q, e)]) H1) (hD1 : va_D (fun q => base ≤ q) (pv_w ty base b M ++ [(q, e)])) (hz : H1.size ≤ base + M.length + 1) : q = base + M.length := by
  have hlen : (pv_w ty base b M).length = M.length := by simp [pv_w]
  have hq : (pv_w ty base b M ++ [(q, e)])[M.length]? = some (q, e) := by
    rw [List.getElem?_append_right (by omega), hlen, Nat.sub_self]
    rfl
  have h1 : q < H1.size := (hP1 _ _ hq).lt
  have h2 : base ≤ q := hD1.2 _ _ hq
  by_cases h : q = base + M.length
  · exact h
  · have hk : q - base < M.length := by omega
    have h3 : M[q - base]? = some M[q - base] := List.getElem?_eq_getElem hk
    have h4 := pv_w_get (ty := ty) (base := base) (b := b) h3
    have h5 := hD1.1 (q - base) M.length _ _ (by rw [List.getElem?_append_left (by omega)]; exact h4) hq (by show base + (q - base) = q; omega)
    omega
theorem pv_sized {D : va_G} {ty : Nat → ClassId} {base b n0 : Nat} {M : List va_E} {p : Program} {l : Launch} {e : Env} {R : Room} {s : State} {m : MethodId} {args : Array Value} {below : List Frame} {meth : Method} {c : Code} {H : Heap} {locs : List Loc} {cells slots : Nat} {Q : State → Prop} {g : JFrame} (hs : s.heap.size = base + n0) (hc : n0 + cells = M.length) (hP : va_P D pv_cl (pv_w ty base b M) H) (hS : va_S (fun q => base ≤ q) s.heap H locs)
    (k : H.size = base + M.length → W p l e R s m args below meth c H locs cells slots Q g) : W p l e R s m args below meth c H locs cells slots Q g := by
  intro T hT X
  have h1 := X.heapSize
  rw [hT, hs] at h1
  have h2 : base + M.length ≤ H.size := by
    by_cases h : M.length = 0
    · have := hS.1
      omega
    · have h3 : M[M.length - 1]? = some M[M.length - 1] := List.getElem?_eq_getElem (by omega)
      have h4 : base + (M.length - 1) < H.size := (hP _ _ (pv_w_get h3)).lt
      omega
  exact k (by omega) T hT X
def pv_rm (d mc ms : Nat) : Room := { frames := d, cells := mc, slots := ms, locals := 40 * d }
def pv_Bt (D : va_G) (ty : Nat → ClassId) (base b : Nat) (M : List va_E) (t : State) : Prop := va_P D pv_cl (pv_w ty base b M) t.heap
def pv_Br (D : va_G) (ty : Nat → ClassId) (base b : Nat) (M : List va_E × Nat) (a : Nat) (t : State) : Prop := a = base + M.2 ∧ va_P D pv_cl (pv_w ty base b M.1) t.heap
def pv_P0 (D : va_G) (ty : Nat → ClassId) (base b : Nat) (Ex : State → Prop) (args : List Value) (M : List va_E) : Array Value → State → Prop := va_Pc (args.map (pv_tr (pv_ad base b))) (fun U => pv_K D ty U ∧ base ≤ U.heap.size ∧ Ex U ∧ va_P D pv_cl (pv_w ty base b M) U.heap)
def pv_ws (y : MethodName) (cc : ByteArray) (nL : Nat) (ret : Option FieldType) : List Cond := .code y cc nL ret :: pv_T
/-- the three kinds of contract: an int, nothing, a cell -/
def pv_QI (D : va_G) (ty : Nat → ClassId) (base b : Nat) (post : Int32 → List va_E → Prop) : Array Value → State → Outcome → State → Prop := va_Qi post (pv_Bt D ty base b) (fun q => base ≤ q)
def pv_QV (D : va_G) (ty : Nat → ClassId) (base b : Nat) (post : List va_E → Prop) : Array Value → State → Outcome → State → Prop := va_Qv post (pv_Bt D ty base b) (fun q => base ≤ q)
def pv_QR (D : va_G) (ty : Nat → ClassId) (base b : Nat) (post : Nat → List va_E → Prop) : Array Value → State → Outcome → State → Prop := va_Qr (fun u : List va_E × Nat => post u.2 u.1) (pv_Br D ty base b) (fun q => base ≤ q)
def pv_M (l : Launch) (D : va_G) (ty : Nat → ClassId) (base b d mc ms : Nat) (Ex : State → Prop) (y : MethodName) (cc : ByteArray) (nL : Nat) (ret : Option FieldType) (args : List Value) (M : List va_E) (Qc : Array Value → State → Outcome → State → Prop) : Prop :=
  Met l y (pv_ws y cc nL ret) (pv_rm d mc ms) (pv_P0 D ty base b Ex args M) Qc mc ms (fun q => base ≤ q)
def pv_Qf (base mc ms : Nat) (Qc : Array Value → State → Outcome → State → Prop) (below : List Frame) (a : Array Value) (s : State) : State → Prop := MQ below Qc a s mc ms (fun q => base ≤ q)
variable {l : Launch} {D : va_G} {ty : Nat → ClassId} {base b : Nat} {cc : ByteArray} {nL : Nat} {own : String} {ret : Option FieldType} {nm : String} {R : Room} {Ex : State → Prop} {Qf : List Frame → Array Value → State → State → Prop} {cells slots pc : Nat} {L : List (Option Value)} {st : List Value} {M : List va_E}
theorem pv_enter {y : MethodName} {d mc ms : Nat} {args : List Value} {Qc : Array Value → State → Outcome → State → Prop} (L0 : List (Option Value)) (hpl : plainName y.cls = true) (hL : ∀ ad, pv_l ad 0 L0 = lv_args 0 (args.map (pv_tr ad))) (hlen : ∀ ad, (lg_sl (args.map (pv_tr ad))).length ≤ nL)
    (k : pv_V l D ty base b cc nL y.cls ret y.name (pv_rm d mc ms) Ex (pv_Qf base mc ms Qc) 0 0 0 L0 [] M) : pv_M l D ty base b d mc ms Ex y cc nL ret args M Qc := by
  refine Met.ofW (cc := cc) (maxL := nL) (ret := ret) hpl rfl ?_
  intro p e s m args' below meth c s₁ B hml hv
  obtain ⟨rfl, hK, hsz, hE, hP⟩ := hv
  have hts := atoms_spec (ws := pv_ws y cc nL ret) B.pre
  rw [lg_entry_eq]
  refine k p e s m _ below meth c ⟨⟨B.exec, B.bytes, hml, findClass_of_methodNamed B.named, fun w hw => hts w (List.mem_cons_of_mem _ hw)⟩, hK, B.returns, B.notSynchronized, (name_of_methodNamed B.named B.method).1, hsz, hE⟩ s.heap [] _ ?_ hP va_S.rf
  rw [hL]
  exact lv_entry _ (hlen _)
theorem pv_iret {post : Int32 → List va_E → Prop} {v : Int32} (hd : decode cc pc = .ok (.ireturn, 1)) (hq : post v M) : pv_V l D ty base b cc nL own (some .int) nm R Ex (pv_Qf base cells slots (pv_QI D ty base b post)) cells slots pc L [.int v] M :=
  fun p e s m args below meth c C H locs ls hl hP hS => W.iret C.1.1 C.1.2.1 C.2.2.1 (fun t ht hW => ⟨⟨v, M, rfl, hq, by show va_P _ _ _ t.heap; rw [ht]; exact hP⟩, hS.F ht⟩) hS.2.2 hd C.2.2.2.1
theorem pv_zret {post : Int32 → List va_E → Prop} {v : Int32} (hd : decode cc pc = .ok (.ireturn, 1)) (hn : narrow .boolean (.int v) = .int v) (hq : post v M) : pv_V l D ty base b cc nL own (some .boolean) nm R Ex (pv_Qf base cells slots (pv_QI D ty base b post)) cells slots pc L [.int v] M :=
  fun p e s m args below meth c C H locs ls hl hP hS => W.zret C.1.1 C.1.2.1 C.2.2.1 hn (fun t ht hW => ⟨⟨v, M, rfl, hq, by show va_P _ _ _ t.heap; rw [ht]; exact hP⟩, hS.F ht⟩) hS.2.2 hd C.2.2.2.1
theorem pv_vret {post : List va_E → Prop} (hd : decode cc pc = .ok (.return_, 1)) (hq : post M) : pv_V l D ty base b cc nL own none nm R Ex (pv_Qf base cells slots (pv_QV D ty base b post)) cells slots pc L [] M :=
  fun p e s m args below meth c C H locs ls hl hP hS => W.vret C.1.1 C.1.2.1 C.2.2.1 (fun t ht hW => ⟨⟨M, rfl, hq, by show va_P _ _ _ t.heap; rw [ht]; exact hP⟩, hS.F ht⟩) hS.2.2 hd C.2.2.2.1
theorem pv_aret {post : Nat → List va_E → Prop} {k : Nat} {C0 : String} (hd : decode cc pc = .ok (.areturn, 1)) (hq : post k M) : pv_V l D ty base b cc nL own (some (.object C0)) nm R Ex (pv_Qf base cells slots (pv_QR D ty base b post)) cells slots pc L [.ref (k + 1)] M :=
  fun p e s m args below meth c C H locs ls hl hP hS => W.aret C.1.1 C.1.2.1 C.2.2.1 (Or.inl ⟨_, rfl⟩) (Or.inr ⟨base + k, rfl⟩) (fun t ht hW => ⟨⟨(M, k), base + k, rfl, hq, rfl, by show va_P _ _ _ t.heap; rw [ht]; exact hP⟩, hS.F ht⟩) hS.2.2 hd C.2.2.2.1
theorem pv_cats (st : List Value) : ((st.map (pv_tr (pv_ad base b))).map fun v => v.category) = st.map fun v => v.category := by
  rw [List.map_map]
  congr 1
  funext v
  exact pv_cat _ v
theorem pv_K.moved {s U : State} (h : pv_K D ty s) (hW : s.WarmedH U.vm) : pv_K D ty U := ⟨va_K.moved hW.alike h.1, h.2.1.moved hW.alike, h.2.2.1.moved hW.alike, fun q hq => (h.2.2.2 q hq).warmM hW⟩
theorem pv_blind {args : List Value} (hE : ∀ (U : State) (g : JFrame) (mk : MethodId) (a : Array Value), Ex U → Ex (U.calling g mk a)) : FrameBlind (pv_P0 D ty base b Ex args M) := by
  intro a U g mk q
  obtain ⟨q0, ⟨qK, qa, qb, qn⟩, qs, qE, qP⟩ := q
  exact ⟨q0, ⟨va_K.moved (u := U) (U := U.calling g mk a) (Vm.Alike.refl U.vm) qK, qa.moved (u := U) (U := U.calling g mk a) (Vm.Alike.refl U.vm), qb.moved (u := U) (U := U.calling g mk a) (Vm.Alike.refl U.vm), fun w hw => (qn w hw).same rfl (U := U.calling g mk a) rfl⟩, qs, hE U g mk a qE, qP⟩
/-- a callee's words -/
def pv_SB (y : MethodName) (cY : ByteArray) (nY : Nat) (rY : Option FieldType) (n : Nat) : Prop := Cond.code y cY nY rY ∈ pv_T ∧ Cond.initialized y.cls ∈ pv_T ∧ (y.cls ≠ "java/lang/invoke/MethodHandle" ∧ y.cls ≠ "java/lang/invoke/VarHandle" ∧ (parseMethodDescriptor y.desc).map (fun d => d.parameters.length) = some n)
theorem pv_goodIn {y : MethodName} {cY : ByteArray} {nY : Nat} {rY : Option FieldType} (h : Cond.code y cY nY rY ∈ pv_T) : GoodIn pv_T (pv_ws y cY nY rY) := by
  intro w hw
  rcases List.mem_cons.mp hw with rfl | hw
  · exact ⟨h, pv_T_good _ h⟩
  · exact ⟨hw, pv_T_good _ hw⟩
def pv_inst (y : MethodName) : Prop := Cond.instanceMethod y ∈ pv_T ∧ Cond.selects y.cls y y ∈ pv_T

theorem pv_callV0I {k idx d nY : Nat} {y : MethodName} {cY : ByteArray} {rY : Option FieldType} (hd : decode cc pc = .ok (.invokevirtual idx, 3)) (hM : pv_M l D ty base b d 0 0 (fun _ => True) y cY nY rY [.ref (k + 1)] M (pv_QI D ty base b (fun r M1 => pv_V l D ty base b cc nL own ret nm R Ex Qf cells slots (pc + 3) L (.int r :: st) M1))) (hB : pv_SB y cY nY rY 0) (hlk : Cond.methodLink own idx y ∈ pv_T) {ci N : Nat} {T : u_T} {fs : List Value} (hre : M[k]? = some (.inr (ci, fs))) (hcl : pv_cl[ci]? = some (y.cls, T, N)) (hin : pv_inst y) (hR : d + 1 ≤ R.frames) (hR2 : 8 + (nY + 11) + 40 * d ≤ R.locals) (hw : (st.map fun v => v.category).sum ≤ 8) (hc : cells ≤ R.cells) (hs : slots ≤ R.slots) : pv_V l D ty base b cc nL own ret nm R Ex Qf cells slots pc L (.ref (k + 1) :: st) M := by
  intro p e s m args below meth c C H locs ls hl hP hS
  have hts := C.1.2.2.2.2
  have hw9 : ((st.map (pv_tr (pv_ad base b))).map fun v => v.category).sum ≤ 8 := by rw [pv_cats]; exact hw
  have hr := va_runV (C := y.cls) (b := base + k) (As := []) (rest := st.map (pv_tr (pv_ad base b))) (e := e) (below := below) (meth := meth) (locs := locs) (cells := cells) (slots := slots) (g := F0 m pc ls ((.ref (k + 1) :: st).map (pv_tr (pv_ad base b)))) C.1 hM ⟨callB_of 0 hts (pv_goodIn hB.1) rfl rfl rfl (hts _ hB.2.1) (hts _ hlk) hB.2.2 ⟨hR, hR2⟩, hts _ hin.1, hts _ hin.2⟩ ⟨(pv_blind (fun U g mk a h => h)), va_recv C.2.1.1 hP hcl (pv_w_get hre), fun U hU hW => ⟨rfl, C.2.1.moved hW, by rw [hU]; exact Nat.le_trans C.2.2.2.2.2.1 hS.1, trivial, by rw [hU]; exact hP⟩⟩ rfl rfl hl.1 rfl (lv_room hw9) hd ⟨hc, hs⟩
  exact va_calli hr hS (fun q _ h => h) (fun q h => h) (fun r M1 t H1 locs1 ht hvm hpost hB1 hz1 hk1 hS1 => hpost p e s m args below meth c C H1 locs1 ls hl (ht ▸ hB1) hS1)
theorem pv_callV1I {k idx d nY : Nat} {y : MethodName} {cY : ByteArray} {rY : Option FieldType} {v1 : Value} (hd : decode cc pc = .ok (.invokevirtual idx, 3)) (hM : pv_M l D ty base b d 0 0 (fun _ => True) y cY nY rY [.ref (k + 1), v1] M (pv_QI D ty base b (fun r M1 => pv_V l D ty base b cc nL own ret nm R Ex Qf cells slots (pc + 3) L (.int r :: st) M1))) (hB : pv_SB y cY nY rY 1) (hlk : Cond.methodLink own idx y ∈ pv_T) {ci N : Nat} {T : u_T} {fs : List Value} (hre : M[k]? = some (.inr (ci, fs))) (hcl : pv_cl[ci]? = some (y.cls, T, N)) (hin : pv_inst y) (hR : d + 1 ≤ R.frames) (hR2 : 8 + (nY + 11) + 40 * d ≤ R.locals) (hw : (st.map fun v => v.category).sum ≤ 8) (hc : cells ≤ R.cells) (hs : slots ≤ R.slots) : pv_V l D ty base b cc nL own ret nm R Ex Qf cells slots pc L (v1 :: .ref (k + 1) :: st) M := by
  intro p e s m args below meth c C H locs ls hl hP hS
  have hts := C.1.2.2.2.2
  have hw9 : ((st.map (pv_tr (pv_ad base b))).map fun v => v.category).sum ≤ 8 := by rw [pv_cats]; exact hw
  have hr := va_runV (C := y.cls) (b := base + k) (As := [pv_tr (pv_ad base b) v1]) (rest := st.map (pv_tr (pv_ad base b))) (e := e) (below := below) (meth := meth) (locs := locs) (cells := cells) (slots := slots) (g := F0 m pc ls ((v1 :: .ref (k + 1) :: st).map (pv_tr (pv_ad base b)))) C.1 hM ⟨callB_of 1 hts (pv_goodIn hB.1) rfl rfl rfl (hts _ hB.2.1) (hts _ hlk) hB.2.2 ⟨hR, hR2⟩, hts _ hin.1, hts _ hin.2⟩ ⟨(pv_blind (fun U g mk a h => h)), va_recv C.2.1.1 hP hcl (pv_w_get hre), fun U hU hW => ⟨rfl, C.2.1.moved hW, by rw [hU]; exact Nat.le_trans C.2.2.2.2.2.1 hS.1, trivial, by rw [hU]; exact hP⟩⟩ rfl rfl hl.1 rfl (lv_room hw9) hd ⟨hc, hs⟩
  exact va_calli hr hS (fun q _ h => h) (fun q h => h) (fun r M1 t H1 locs1 ht hvm hpost hB1 hz1 hk1 hS1 => hpost p e s m args below meth c C H1 locs1 ls hl (ht ▸ hB1) hS1)
theorem pv_callV2I {k idx d nY : Nat} {y : MethodName} {cY : ByteArray} {rY : Option FieldType} {v1 v2 : Value} (hd : decode cc pc = .ok (.invokevirtual idx, 3)) (hM : pv_M l D ty base b d 0 0 (fun _ => True) y cY nY rY [.ref (k + 1), v1, v2] M (pv_QI D ty base b (fun r M1 => pv_V l D ty base b cc nL own ret nm R Ex Qf cells slots (pc + 3) L (.int r :: st) M1))) (hB : pv_SB y cY nY rY 2) (hlk : Cond.methodLink own idx y ∈ pv_T) {ci N : Nat} {T : u_T} {fs : List Value} (hre : M[k]? = some (.inr (ci, fs))) (hcl : pv_cl[ci]? = some (y.cls, T, N)) (hin : pv_inst y) (hR : d + 1 ≤ R.frames) (hR2 : 8 + (nY + 11) + 40 * d ≤ R.locals) (hw : (st.map fun v => v.category).sum ≤ 8) (hc : cells ≤ R.cells) (hs : slots ≤ R.slots) : pv_V l D ty base b cc nL own ret nm R Ex Qf cells slots pc L (v2 :: v1 :: .ref (k + 1) :: st) M := by
  intro p e s m args below meth c C H locs ls hl hP hS
  have hts := C.1.2.2.2.2
  have hw9 : ((st.map (pv_tr (pv_ad base b))).map fun v => v.category).sum ≤ 8 := by rw [pv_cats]; exact hw
  have hr := va_runV (C := y.cls) (b := base + k) (As := [pv_tr (pv_ad base b) v1, pv_tr (pv_ad base b) v2]) (rest := st.map (pv_tr (pv_ad base b))) (e := e) (below := below) (meth := meth) (locs := locs) (cells := cells) (slots := slots) (g := F0 m pc ls ((v2 :: v1 :: .ref (k + 1) :: st).map (pv_tr (pv_ad base b)))) C.1 hM ⟨callB_of 2 hts (pv_goodIn hB.1) rfl rfl rfl (hts _ hB.2.1) (hts _ hlk) hB.2.2 ⟨hR, hR2⟩, hts _ hin.1, hts _ hin.2⟩ ⟨(pv_blind (fun U g mk a h => h)), va_recv C.2.1.1 hP hcl (pv_w_get hre), fun U hU hW => ⟨rfl, C.2.1.moved hW, by rw [hU]; exact Nat.le_trans C.2.2.2.2.2.1 hS.1, trivial, by rw [hU]; exact hP⟩⟩ rfl rfl hl.1 rfl (lv_room hw9) hd ⟨hc, hs⟩
  exact va_calli hr hS (fun q _ h => h) (fun q h => h) (fun r M1 t H1 locs1 ht hvm hpost hB1 hz1 hk1 hS1 => hpost p e s m args below meth c C H1 locs1 ls hl (ht ▸ hB1) hS1)
theorem pv_callV3I {k idx d nY : Nat} {y : MethodName} {cY : ByteArray} {rY : Option FieldType} {v1 v2 v3 : Value} (hd : decode cc pc = .ok (.invokevirtual idx, 3)) (hM : pv_M l D ty base b d 0 0 (fun _ => True) y cY nY rY [.ref (k + 1), v1, v2, v3] M (pv_QI D ty base b (fun r M1 => pv_V l D ty base b cc nL own ret nm R Ex Qf cells slots (pc + 3) L (.int r :: st) M1))) (hB : pv_SB y cY nY rY 3) (hlk : Cond.methodLink own idx y ∈ pv_T) {ci N : Nat} {T : u_T} {fs : List Value} (hre : M[k]? = some (.inr (ci, fs))) (hcl : pv_cl[ci]? = some (y.cls, T, N)) (hin : pv_inst y) (hR : d + 1 ≤ R.frames) (hR2 : 8 + (nY + 11) + 40 * d ≤ R.locals) (hw : (st.map fun v => v.category).sum ≤ 8) (hc : cells ≤ R.cells) (hs : slots ≤ R.slots) : pv_V l D ty base b cc nL own ret nm R Ex Qf cells slots pc L (v3 :: v2 :: v1 :: .ref (k + 1) :: st) M := by
  intro p e s m args below meth c C H locs ls hl hP hS
  have hts := C.1.2.2.2.2
  have hw9 : ((st.map (pv_tr (pv_ad base b))).map fun v => v.category).sum ≤ 8 := by rw [pv_cats]; exact hw
  have hr := va_runV (C := y.cls) (b := base + k) (As := [pv_tr (pv_ad base b) v1, pv_tr (pv_ad base b) v2, pv_tr (pv_ad base b) v3]) (rest := st.map (pv_tr (pv_ad base b))) (e := e) (below := below) (meth := meth) (locs := locs) (cells := cells) (slots := slots) (g := F0 m pc ls ((v3 :: v2 :: v1 :: .ref (k + 1) :: st).map (pv_tr (pv_ad base b)))) C.1 hM ⟨callB_of 3 hts (pv_goodIn hB.1) rfl rfl rfl (hts _ hB.2.1) (hts _ hlk) hB.2.2 ⟨hR, hR2⟩, hts _ hin.1, hts _ hin.2⟩ ⟨(pv_blind (fun U g mk a h => h)), va_recv C.2.1.1 hP hcl (pv_w_get hre), fun U hU hW => ⟨rfl, C.2.1.moved hW, by rw [hU]; exact Nat.le_trans C.2.2.2.2.2.1 hS.1, trivial, by rw [hU]; exact hP⟩⟩ rfl rfl hl.1 rfl (lv_room hw9) hd ⟨hc, hs⟩
  exact va_calli hr hS (fun q _ h => h) (fun q h => h) (fun r M1 t H1 locs1 ht hvm hpost hB1 hz1 hk1 hS1 => hpost p e s m args below meth c C H1 locs1 ls hl (ht ▸ hB1) hS1)
theorem pv_callV0V {k idx d nY : Nat} {y : MethodName} {cY : ByteArray} {rY : Option FieldType} (hd : decode cc pc = .ok (.invokevirtual idx, 3)) (hM : pv_M l D ty base b d 0 0 (fun _ => True) y cY nY rY [.ref (k + 1)] M (pv_QV D ty base b (fun M1 => pv_V l D ty base b cc nL own ret nm R Ex Qf cells slots (pc + 3) L st M1))) (hB : pv_SB y cY nY rY 0) (hlk : Cond.methodLink own idx y ∈ pv_T) {ci N : Nat} {T : u_T} {fs : List Value} (hre : M[k]? = some (.inr (ci, fs))) (hcl : pv_cl[ci]? = some (y.cls, T, N)) (hin : pv_inst y) (hR : d + 1 ≤ R.frames) (hR2 : 8 + (nY + 11) + 40 * d ≤ R.locals) (hw : (st.map fun v => v.category).sum ≤ 8) (hc : cells ≤ R.cells) (hs : slots ≤ R.slots) : pv_V l D ty base b cc nL own ret nm R Ex Qf cells slots pc L (.ref (k + 1) :: st) M := by
  intro p e s m args below meth c C H locs ls hl hP hS
  have hts := C.1.2.2.2.2
  have hw9 : ((st.map (pv_tr (pv_ad base b))).map fun v => v.category).sum ≤ 8 := by rw [pv_cats]; exact hw
  have hr := va_runV (C := y.cls) (b := base + k) (As := []) (rest := st.map (pv_tr (pv_ad base b))) (e := e) (below := below) (meth := meth) (locs := locs) (cells := cells) (slots := slots) (g := F0 m pc ls ((.ref (k + 1) :: st).map (pv_tr (pv_ad base b)))) C.1 hM ⟨callB_of 0 hts (pv_goodIn hB.1) rfl rfl rfl (hts _ hB.2.1) (hts _ hlk) hB.2.2 ⟨hR, hR2⟩, hts _ hin.1, hts _ hin.2⟩ ⟨(pv_blind (fun U g mk a h => h)), va_recv C.2.1.1 hP hcl (pv_w_get hre), fun U hU hW => ⟨rfl, C.2.1.moved hW, by rw [hU]; exact Nat.le_trans C.2.2.2.2.2.1 hS.1, trivial, by rw [hU]; exact hP⟩⟩ rfl rfl hl.1 rfl (lv_room hw9) hd ⟨hc, hs⟩
  exact va_callv hr hS (fun q _ h => h) (fun q h => h) (fun M1 t H1 locs1 ht hvm hpost hB1 hz1 hk1 hS1 => hpost p e s m args below meth c C H1 locs1 ls hl (ht ▸ hB1) hS1)
theorem pv_callV1V {k idx d nY : Nat} {y : MethodName} {cY : ByteArray} {rY : Option FieldType} {v1 : Value} (hd : decode cc pc = .ok (.invokevirtual idx, 3)) (hM : pv_M l D ty base b d 0 0 (fun _ => True) y cY nY rY [.ref (k + 1), v1] M (pv_QV D ty base b (fun M1 => pv_V l D ty base b cc nL own ret nm R Ex Qf cells slots (pc + 3) L st M1))) (hB : pv_SB y cY nY rY 1) (hlk : Cond.methodLink own idx y ∈ pv_T) {ci N : Nat} {T : u_T} {fs : List Value} (hre : M[k]? = some (.inr (ci, fs))) (hcl : pv_cl[ci]? = some (y.cls, T, N)) (hin : pv_inst y) (hR : d + 1 ≤ R.frames) (hR2 : 8 + (nY + 11) + 40 * d ≤ R.locals) (hw : (st.map fun v => v.category).sum ≤ 8) (hc : cells ≤ R.cells) (hs : slots ≤ R.slots) : pv_V l D ty base b cc nL own ret nm R Ex Qf cells slots pc L (v1 :: .ref (k + 1) :: st) M := by
  intro p e s m args below meth c C H locs ls hl hP hS
  have hts := C.1.2.2.2.2
  have hw9 : ((st.map (pv_tr (pv_ad base b))).map fun v => v.category).sum ≤ 8 := by rw [pv_cats]; exact hw
  have hr := va_runV (C := y.cls) (b := base + k) (As := [pv_tr (pv_ad base b) v1]) (rest := st.map (pv_tr (pv_ad base b))) (e := e) (below := below) (meth := meth) (locs := locs) (cells := cells) (slots := slots) (g := F0 m pc ls ((v1 :: .ref (k + 1) :: st).map (pv_tr (pv_ad base b)))) C.1 hM ⟨callB_of 1 hts (pv_goodIn hB.1) rfl rfl rfl (hts _ hB.2.1) (hts _ hlk) hB.2.2 ⟨hR, hR2⟩, hts _ hin.1, hts _ hin.2⟩ ⟨(pv_blind (fun U g mk a h => h)), va_recv C.2.1.1 hP hcl (pv_w_get hre), fun U hU hW => ⟨rfl, C.2.1.moved hW, by rw [hU]; exact Nat.le_trans C.2.2.2.2.2.1 hS.1, trivial, by rw [hU]; exact hP⟩⟩ rfl rfl hl.1 rfl (lv_room hw9) hd ⟨hc, hs⟩
  exact va_callv hr hS (fun q _ h => h) (fun q h => h) (fun M1 t H1 locs1 ht hvm hpost hB1 hz1 hk1 hS1 => hpost p e s m args below meth c C H1 locs1 ls hl (ht ▸ hB1) hS1)
theorem pv_callV2V {k idx d nY : Nat} {y : MethodName} {cY : ByteArray} {rY : Option FieldType} {v1 v2 : Value} (hd : decode cc pc = .ok (.invokevirtual idx, 3)) (hM : pv_M l D ty base b d 0 0 (fun _ => True) y cY nY rY [.ref (k + 1), v1, v2] M (pv_QV D ty base b (fun M1 => pv_V l D ty base b cc nL own ret nm R Ex Qf cells slots (pc + 3) L st M1))) (hB : pv_SB y cY nY rY 2) (hlk : Cond.methodLink own idx y ∈ pv_T) {ci N : Nat} {T : u_T} {fs : List Value} (hre : M[k]? = some (.inr (ci, fs))) (hcl : pv_cl[ci]? = some (y.cls, T, N)) (hin : pv_inst y) (hR : d + 1 ≤ R.frames) (hR2 : 8 + (nY + 11) + 40 * d ≤ R.locals) (hw : (st.map fun v => v.category).sum ≤ 8) (hc : cells ≤ R.cells) (hs : slots ≤ R.slots) : pv_V l D ty base b cc nL own ret nm R Ex Qf cells slots pc L (v2 :: v1 :: .ref (k + 1) :: st) M := by
  intro p e s m args below meth c C H locs ls hl hP hS
  have hts := C.1.2.2.2.2
  have hw9 : ((st.map (pv_tr (pv_ad base b))).map fun v => v.category).sum ≤ 8 := by rw [pv_cats]; exact hw
  have hr := va_runV (C := y.cls) (b := base + k) (As := [pv_tr (pv_ad base b) v1, pv_tr (pv_ad base b) v2]) (rest := st.map (pv_tr (pv_ad base b))) (e := e) (below := below) (meth := meth) (locs := locs) (cells := cells) (slots := slots) (g := F0 m pc ls ((v2 :: v1 :: .ref (k + 1) :: st).map (pv_tr (pv_ad base b)))) C.1 hM ⟨callB_of 2 hts (pv_goodIn hB.1) rfl rfl rfl (hts _ hB.2.1) (hts _ hlk) hB.2.2 ⟨hR, hR2⟩, hts _ hin.1, hts _ hin.2⟩ ⟨(pv_blind (fun U g mk a h => h)), va_recv C.2.1.1 hP hcl (pv_w_get hre), fun U hU hW => ⟨rfl, C.2.1.moved hW, by rw [hU]; exact Nat.le_trans C.2.2.2.2.2.1 hS.1, trivial, by rw [hU]; exact hP⟩⟩ rfl rfl hl.1 rfl (lv_room hw9) hd ⟨hc, hs⟩
  exact va_callv hr hS (fun q _ h => h) (fun q h => h) (fun M1 t H1 locs1 ht hvm hpost hB1 hz1 hk1 hS1 => hpost p e s m args below meth c C H1 locs1 ls hl (ht ▸ hB1) hS1)
theorem pv_callV3V {k idx d nY : Nat} {y : MethodName} {cY : ByteArray} {rY : Option FieldType} {v1 v2 v3 : Value} (hd : decode cc pc = .ok (.invokevirtual idx, 3)) (hM : pv_M l D ty base b d 0 0 (fun _ => True) y cY nY rY [.ref (k + 1), v1, v2, v3] M (pv_QV D ty base b (fun M1 => pv_V l D ty base b cc nL own ret nm R Ex Qf cells slots (pc + 3) L st M1))) (hB : pv_SB y cY nY rY 3) (hlk : Cond.methodLink own idx y ∈ pv_T) {ci N : Nat} {T : u_T} {fs : List Value} (hre : M[k]? = some (.inr (ci, fs))) (hcl : pv_cl[ci]? = some (y.cls, T, N)) (hin : pv_inst y) (hR : d + 1 ≤ R.frames) (hR2 : 8 + (nY + 11) + 40 * d ≤ R.locals) (hw : (st.map fun v => v.category).sum ≤ 8) (hc : cells ≤ R.cells) (hs : slots ≤ R.slots) : pv_V l D ty base b cc nL own ret nm R Ex Qf cells slots pc L (v3 :: v2 :: v1 :: .ref (k + 1) :: st) M := by
  intro p e s m args below meth c C H locs ls hl hP hS
  have hts := C.1.2.2.2.2
  have hw9 : ((st.map (pv_tr (pv_ad base b))).map fun v => v.category).sum ≤ 8 := by rw [pv_cats]; exact hw
  have hr := va_runV (C := y.cls) (b := base + k) (As := [pv_tr (pv_ad base b) v1, pv_tr (pv_ad base b) v2, pv_tr (pv_ad base b) v3]) (rest := st.map (pv_tr (pv_ad base b))) (e := e) (below := below) (meth := meth) (locs := locs) (cells := cells) (slots := slots) (g := F0 m pc ls ((v3 :: v2 :: v1 :: .ref (k + 1) :: st).map (pv_tr (pv_ad base b)))) C.1 hM ⟨callB_of 3 hts (pv_goodIn hB.1) rfl rfl rfl (hts _ hB.2.1) (hts _ hlk) hB.2.2 ⟨hR, hR2⟩, hts _ hin.1, hts _ hin.2⟩ ⟨(pv_blind (fun U g mk a h => h)), va_recv C.2.1.1 hP hcl (pv_w_get hre), fun U hU hW => ⟨rfl, C.2.1.moved hW, by rw [hU]; exact Nat.le_trans C.2.2.2.2.2.1 hS.1, trivial, by rw [hU]; exact hP⟩⟩ rfl rfl hl.1 rfl (lv_room hw9) hd ⟨hc, hs⟩
  exact va_callv hr hS (fun q _ h => h) (fun q h => h) (fun M1 t H1 locs1 ht hvm hpost hB1 hz1 hk1 hS1 => hpost p e s m args below meth c C H1 locs1 ls hl (ht ▸ hB1) hS1)
theorem pv_callV0R {k idx d nY : Nat} {y : MethodName} {cY : ByteArray} {rY : Option FieldType} (hd : decode cc pc = .ok (.invokevirtual idx, 3)) (hM : pv_M l D ty base b d 0 0 (fun _ => True) y cY nY rY [.ref (k + 1)] M (pv_QR D ty base b (fun r M1 => pv_V l D ty base b cc nL own ret nm R Ex Qf cells slots (pc + 3) L (.ref (r + 1) :: st) M1))) (hB : pv_SB y cY nY rY 0) (hlk : Cond.methodLink own idx y ∈ pv_T) {ci N : Nat} {T : u_T} {fs : List Value} (hre : M[k]? = some (.inr (ci, fs))) (hcl : pv_cl[ci]? = some (y.cls, T, N)) (hin : pv_inst y) (hR : d + 1 ≤ R.frames) (hR2 : 8 + (nY + 11) + 40 * d ≤ R.locals) (hw : (st.map fun v => v.category).sum ≤ 8) (hc : cells ≤ R.cells) (hs : slots ≤ R.slots) : pv_V l D ty base b cc nL own ret nm R Ex Qf cells slots pc L (.ref (k + 1) :: st) M := by
  intro p e s m args below meth c C H locs ls hl hP hS
  have hts := C.1.2.2.2.2
  have hw9 : ((st.map (pv_tr (pv_ad base b))).map fun v => v.category).sum ≤ 8 := by rw [pv_cats]; exact hw
  have hr := va_runV (C := y.cls) (b := base + k) (As := []) (rest := st.map (pv_tr (pv_ad base b))) (e := e) (below := below) (meth := meth) (locs := locs) (cells := cells) (slots := slots) (g := F0 m pc ls ((.ref (k + 1) :: st).map (pv_tr (pv_ad base b)))) C.1 hM ⟨callB_of 0 hts (pv_goodIn hB.1) rfl rfl rfl (hts _ hB.2.1) (hts _ hlk) hB.2.2 ⟨hR, hR2⟩, hts _ hin.1, hts _ hin.2⟩ ⟨(pv_blind (fun U g mk a h => h)), va_recv C.2.1.1 hP hcl (pv_w_get hre), fun U hU hW => ⟨rfl, C.2.1.moved hW, by rw [hU]; exact Nat.le_trans C.2.2.2.2.2.1 hS.1, trivial, by rw [hU]; exact hP⟩⟩ rfl rfl hl.1 rfl (lv_room hw9) hd ⟨hc, hs⟩
  refine va_callr hr hS (fun q _ h => h) (fun q h => h) (fun M1 ra t H1 locs1 ht hvm hpost hB1 hz1 hk1 hS1 => ?_)
  obtain ⟨rfl, hB2⟩ := hB1
  exact hpost p e s m args below meth c C H1 locs1 ls hl (ht ▸ hB2) hS1
theorem pv_callS1I {idx d nY : Nat} {y : MethodName} {cY : ByteArray} {rY : Option FieldType} {v1 : Value} (hd : decode cc pc = .ok (.invokestatic idx, 3)) (hM : pv_M l D ty base b d 0 0 (fun _ => True) y cY nY rY [v1] M (pv_QI D ty base b (fun r M1 => pv_V l D ty base b cc nL own ret nm R Ex Qf cells slots (pc + 3) L (.int r :: st) M1))) (hB : pv_SB y cY nY rY 1) (hlk : Cond.methodLink own idx y ∈ pv_T) (hst : Cond.static y ∈ pv_T) (hR : d + 1 ≤ R.frames) (hR2 : 8 + (nY + 11) + 40 * d ≤ R.locals) (hw : (st.map fun v => v.category).sum ≤ 8) (hc : cells ≤ R.cells) (hs : slots ≤ R.slots) : pv_V l D ty base b cc nL own ret nm R Ex Qf cells slots pc L (v1 :: st) M := by
  intro p e s m args below meth c C H locs ls hl hP hS
  have hts := C.1.2.2.2.2
  have hw9 : ((st.map (pv_tr (pv_ad base b))).map fun v => v.category).sum ≤ 8 := by rw [pv_cats]; exact hw
  have hr := va_runS (As := [pv_tr (pv_ad base b) v1]) (rest := st.map (pv_tr (pv_ad base b))) (e := e) (below := below) (meth := meth) (locs := locs) (cells := cells) (slots := slots) (g := F0 m pc ls ((v1 :: st).map (pv_tr (pv_ad base b)))) C.1 hM ⟨callB_of 1 hts (pv_goodIn hB.1) rfl rfl rfl (hts _ hB.2.1) (hts _ hlk) hB.2.2 ⟨hR, hR2⟩, hts _ hst⟩ ⟨(pv_blind (fun U g mk a h => h)), fun U hU hW => ⟨rfl, C.2.1.moved hW, by rw [hU]; exact Nat.le_trans C.2.2.2.2.2.1 hS.1, trivial, by rw [hU]; exact hP⟩⟩ rfl rfl hl.1 rfl (lv_room hw9) hd ⟨hc, hs⟩
  exact va_calli hr hS (fun q _ h => h) (fun q h => h) (fun r M1 t H1 locs1 ht hvm hpost hB1 hz1 hk1 hS1 => hpost p e s m args below meth c C H1 locs1 ls hl (ht ▸ hB1) hS1)
theorem pv_callS2I {idx d nY : Nat} {y : MethodName} {cY : ByteArray} {rY : Option FieldType} {v1 v2 : Value} (hd : decode cc pc = .ok (.invokestatic idx, 3)) (hM : pv_M l D ty base b d 0 0 (fun _ => True) y cY nY rY [v1, v2] M (pv_QI D ty base b (fun r M1 => pv_V l D ty base b cc nL own ret nm R Ex Qf cells slots (pc + 3) L (.int r :: st) M1))) (hB : pv_SB y cY nY rY 2) (hlk : Cond.methodLink own idx y ∈ pv_T) (hst : Cond.static y ∈ pv_T) (hR : d + 1 ≤ R.frames) (hR2 : 8 + (nY + 11) + 40 * d ≤ R.locals) (hw : (st.map fun v => v.category).sum ≤ 8) (hc : cells ≤ R.cells) (hs : slots ≤ R.slots) : pv_V l D ty base b cc nL own ret nm R Ex Qf cells slots pc L (v2 :: v1 :: st) M := by
  intro p e s m args below meth c C H locs ls hl hP hS
  have hts := C.1.2.2.2.2
  have hw9 : ((st.map (pv_tr (pv_ad base b))).map fun v => v.category).sum ≤ 8 := by rw [pv_cats]; exact hw
  have hr := va_runS (As := [pv_tr (pv_ad base b) v1, pv_tr (pv_ad base b) v2]) (rest := st.map (pv_tr (pv_ad base b))) (e := e) (below := below) (meth := meth) (locs := locs) (cells := cells) (slots := slots) (g := F0 m pc ls ((v2 :: v1 :: st).map (pv_tr (pv_ad base b)))) C.1 hM ⟨callB_of 2 hts (pv_goodIn hB.1) rfl rfl rfl (hts _ hB.2.1) (hts _ hlk) hB.2.2 ⟨hR, hR2⟩, hts _ hst⟩ ⟨(pv_blind (fun U g mk a h => h)), fun U hU hW => ⟨rfl, C.2.1.moved hW, by rw [hU]; exact Nat.le_trans C.2.2.2.2.2.1 hS.1, trivial, by rw [hU]; exact hP⟩⟩ rfl rfl hl.1 rfl (lv_room hw9) hd ⟨hc, hs⟩
  exact va_calli hr hS (fun q _ h => h) (fun q h => h) (fun r M1 t H1 locs1 ht hvm hpost hB1 hz1 hk1 hS1 => hpost p e s m args below meth c C H1 locs1 ls hl (ht ▸ hB1) hS1)
theorem pv_callSN2I {idx d nY : Nat} {y : MethodName} {cY : ByteArray} {rY : Option FieldType} {host : String} {v1 v2 : Value} (hd : decode cc pc = .ok (.invokestatic idx, 3)) (hM : pv_M l D ty base b d 0 0 (fun _ => True) y cY nY rY [v1, v2] M (pv_QI D ty base b (fun r M1 => pv_V l D ty base b cc nL own ret nm R Ex Qf cells slots (pc + 3) L (.int r :: st) M1))) (hB : pv_SB y cY nY rY 2) (hlk : (own, idx, y, host) ∈ pv_N) (hst : Cond.static y ∈ pv_T) (hR : d + 1 ≤ R.frames) (hR2 : 8 + (nY + 11) + 40 * d ≤ R.locals) (hw : (st.map fun v => v.category).sum ≤ 8) (hc : cells ≤ R.cells) (hs : slots ≤ R.slots) : pv_V l D ty base b cc nL own ret nm R Ex Qf cells slots pc L (v2 :: v1 :: st) M := by
  intro p e s m args below meth c C H locs ls hl hP hS
  have hts := C.1.2.2.2.2
  have hw9 : ((st.map (pv_tr (pv_ad base b))).map fun v => v.category).sum ≤ 8 := by rw [pv_cats]; exact hw
  have hr := va_runSN (As := [pv_tr (pv_ad base b) v1, pv_tr (pv_ad base b) v2]) (rest := st.map (pv_tr (pv_ad base b))) (e := e) (below := below) (meth := meth) (locs := locs) (cells := cells) (slots := slots) (g := F0 m pc ls ((v2 :: v1 :: st).map (pv_tr (pv_ad base b)))) C.1 hM ⟨va_cnB (host := host) 2 hts (pv_goodIn hB.1) rfl rfl rfl (C.2.1.2.2.2 _ hlk) (hts _ hB.2.1) hB.2.2 ⟨hR, hR2⟩, hts _ hst, trivial⟩ ⟨(pv_blind (fun U g mk a h => h)), fun U hU hW => ⟨rfl, C.2.1.moved hW, by rw [hU]; exact Nat.le_trans C.2.2.2.2.2.1 hS.1, trivial, by rw [hU]; exact hP⟩⟩ rfl rfl hl.1 rfl (lv_room hw9) hd ⟨hc, hs⟩
  exact va_calli hr hS (fun q _ h => h) (fun q h => h) (fun r M1 t H1 locs1 ht hvm hpost hB1 hz1 hk1 hS1 => hpost p e s m args below meth c C H1 locs1 ls hl (ht ▸ hB1) hS1)
theorem pv_callI0V {k idx d mc ms nY : Nat} {y : MethodName} {cY : ByteArray} (hd : decode cc pc = .ok (.invokespecial idx, 3)) (hM : pv_M l D ty base b d mc ms (fun U => U.heap.size = base + M.length) y cY nY none [.ref (k + 1)] M (pv_QV D ty base b (fun M1 => pv_V l D ty base b cc nL own ret nm R Ex Qf (cells + mc) (slots + ms) (pc + 3) L st M1))) (hB : pv_SB y cY nY none 0) (hlk : Cond.methodLink own idx y ∈ pv_T) {n0 : Nat} (hE : ∀ s, Ex s → s.heap.size = base + n0) (hc0 : n0 + cells = M.length) (hin : Cond.instanceMethod y ∈ pv_T) (hy1 : y.name = "<init>") (hR : d + 1 ≤ R.frames) (hR2 : 8 + (nY + 11) + 40 * d ≤ R.locals) (hw : (st.map fun v => v.category).sum ≤ 8) (hc : cells + mc ≤ R.cells) (hs : slots + ms ≤ R.slots) : pv_V l D ty base b cc nL own ret nm R Ex Qf cells slots pc L (.ref (k + 1) :: st) M := by
  intro p e s m args below meth c C H locs ls hl hP hS
  have hts := C.1.2.2.2.2
  have hw9 : ((st.map (pv_tr (pv_ad base b))).map fun v => v.category).sum ≤ 8 := by rw [pv_cats]; exact hw
  refine pv_sized (hE s C.2.2.2.2.2.2) hc0 hP hS (fun hz => ?_)
  have hr := va_runI (b := base + k) (As := []) (rest := st.map (pv_tr (pv_ad base b))) (e := e) (below := below) (meth := meth) (locs := locs) (cells := cells) (slots := slots) (g := F0 m pc ls ((.ref (k + 1) :: st).map (pv_tr (pv_ad base b)))) C.1 hM ⟨callB_of 0 hts (pv_goodIn hB.1) rfl rfl rfl (hts _ hB.2.1) (hts _ hlk) hB.2.2 ⟨hR, hR2⟩, hy1, hts _ hin⟩ ⟨(pv_blind (fun U g mk a h => h)), fun U hU hW => ⟨rfl, C.2.1.moved hW, by rw [hU]; exact Nat.le_trans C.2.2.2.2.2.1 hS.1, by show U.heap.size = _; rw [hU]; exact hz, by rw [hU]; exact hP⟩⟩ rfl rfl hl.1 rfl (lv_room hw9) hd ⟨hc, hs⟩
  exact va_callv hr hS (fun q _ h => h) (fun q h => h) (fun M1 t H1 locs1 ht hvm hpost hB1 hz1 hk1 hS1 => hpost p e s m args below meth c C H1 locs1 ls hl (ht ▸ hB1) hS1)
theorem pv_callI1V {k idx d mc ms nY : Nat} {y : MethodName} {cY : ByteArray} {v1 : Value} (hd : decode cc pc = .ok (.invokespecial idx, 3)) (hM : pv_M l D ty base b d mc ms (fun U => U.heap.size = base + M.length) y cY nY none [.ref (k + 1), v1] M (pv_QV D ty base b (fun M1 => pv_V l D ty base b cc nL own ret nm R Ex Qf (cells + mc) (slots + ms) (pc + 3) L st M1))) (hB : pv_SB y cY nY none 1) (hlk : Cond.methodLink own idx y ∈ pv_T) {n0 : Nat} (hE : ∀ s, Ex s → s.heap.size = base + n0) (hc0 : n0 + cells = M.length) (hin : Cond.instanceMethod y ∈ pv_T) (hy1 : y.name = "<init>") (hR : d + 1 ≤ R.frames) (hR2 : 8 + (nY + 11) + 40 * d ≤ R.locals) (hw : (st.map fun v => v.category).sum ≤ 8) (hc : cells + mc ≤ R.cells) (hs : slots + ms ≤ R.slots) : pv_V l D ty base b cc nL own ret nm R Ex Qf cells slots pc L (v1 :: .ref (k + 1) :: st) M := by
  intro p e s m args below meth c C H locs ls hl hP hS
  have hts := C.1.2.2.2.2
  have hw9 : ((st.map (pv_tr (pv_ad base b))).map fun v => v.category).sum ≤ 8 := by rw [pv_cats]; exact hw
  refine pv_sized (hE s C.2.2.2.2.2.2) hc0 hP hS (fun hz => ?_)
  have hr := va_runI (b := base + k) (As := [pv_tr (pv_ad base b) v1]) (rest := st.map (pv_tr (pv_ad base b))) (e := e) (below := below) (meth := meth) (locs := locs) (cells := cells) (slots := slots) (g := F0 m pc ls ((v1 :: .ref (k + 1) :: st).map (pv_tr (pv_ad base b)))) C.1 hM ⟨callB_of 1 hts (pv_goodIn hB.1) rfl rfl rfl (hts _ hB.2.1) (hts _ hlk) hB.2.2 ⟨hR, hR2⟩, hy1, hts _ hin⟩ ⟨(pv_blind (fun U g mk a h => h)), fun U hU hW => ⟨rfl, C.2.1.moved hW, by rw [hU]; exact Nat.le_trans C.2.2.2.2.2.1 hS.1, by show U.heap.size = _; rw [hU]; exact hz, by rw [hU]; exact hP⟩⟩ rfl rfl hl.1 rfl (lv_room hw9) hd ⟨hc, hs⟩
  exact va_callv hr hS (fun q _ h => h) (fun q h => h) (fun M1 t H1 locs1 ht hvm hpost hB1 hz1 hk1 hS1 => hpost p e s m args below meth c C H1 locs1 ls hl (ht ▸ hB1) hS1)
theorem pv_new {idx ci N n0 : Nat} {C0 : String} {T : u_T} {fs : List Value} (hE : ∀ s, Ex s → s.heap.size = base + n0) (hc0 : n0 + cells = M.length) (hcl : pv_cl[ci]? = some (C0, T, N)) (hin : ∀ w ∈ u_ws C0 T N, w ∈ pv_T) (t0 : Nat → FieldType) (hty : ∀ k, k < N → parseFieldDescriptor (T k).2.2.1 = some (t0 k)) (hlink : Cond.classLink own idx C0 ∈ pv_T) (hinst : Cond.instantiable C0 N ∈ pv_T) (hini : Cond.initialized C0 ∈ pv_T) (hfs : ∀ j, j < N → defaultValue (t0 j) = vp_V fs j) (hft : ∀ ad, fs.map (pv_tr ad) = fs) (hc : cells + 1 ≤ R.cells) (hs : slots + N ≤ R.slots) (hd : decode cc pc = .ok (.new idx, 3))
    (kk : pv_V l D ty base b cc nL own ret nm R Ex Qf (cells + 1) (slots + N) (pc + 3) L (.ref (M.length + 1) :: st) (M ++ [.inr (ci, fs)])) : pv_V l D ty base b cc nL own ret nm R Ex Qf cells slots pc L st M := by
  intro p e s m args below meth c C H locs ls hl hP hS
  have hts := C.1.2.2.2.2
  refine va_new C.1.1 C.1.2.1 hts hin t0 hty C.1.2.2.2.1 (hts _ hlink) (hts _ hinst) (hts _ hini) C.2.1.1 hP pv_D hS (fun q h => Nat.le_trans C.2.2.2.2.2.1 h) hcl hfs hc hs hd (fun q H1 hP1 hD1 hS1 => ?_)
  intro T9 hT X
  have hz := X.heapSize
  rw [hT, hE s C.2.2.2.2.2.2] at hz
  have hq := pv_fresh hP1 hD1 (by omega)
  subst hq
  refine kk p e s m args below meth c C H1 locs ls hl ?_ hS1 T9 hT X
  rw [pv_w_push]
  show va_P D pv_cl (_ ++ [(_, .inr (ci, fs.map (pv_tr (pv_ad base b))))]) H1
  rw [hft]
  exact hP1
theorem pv_newa {t n n0 : Nat} {atype : ArrayType} {fty : FieldType} (x0 : (Nat → Int32) ⊕ (Nat → Int64) ⊕ (Nat → UInt32) ⊕ (Nat → UInt64) ⊕ (Nat → Option Nat)) (hE : ∀ s, Ex s → s.heap.size = base + n0) (hc0 : n0 + cells = M.length) (harr : Cond.arrayClass (newarray.typeOf atype) ∈ pv_T) (hty : newarray.typeOf atype = fty) (htt : ∀ ty, (pv_tys ty)[t]? = some (ty t, fty)) (ha : ∀ cA : ClassId, vp_cell cA (n, x0) = arrV cA n (fun _ => defaultValue fty)) (hx0 : ∀ ad, pv_ta ad x0 = x0) (hn : n < 2 ^ 31) (hbytes : n * componentBytes fty ≤ 536870912) (hc : cells + 1 ≤ R.cells) (hs : slots + n ≤ R.slots) (hd : decode cc pc = .ok (.newarray atype, 2))
    (kk : pv_V l D ty base b cc nL own ret nm R Ex Qf (cells + 1) (slots + n) (pc + 2) L (.ref (M.length + 1) :: st) (M ++ [.inl (t, n, x0)])) : pv_V l D ty base b cc nL own ret nm R Ex Qf cells slots pc L (.int (nI n) :: st) M := by
  intro p e s m args below meth c C H locs ls hl hP hS
  have hts := C.1.2.2.2.2
  refine va_newa C.1.1 C.1.2.1 (hts _ harr) hty C.2.1.1 hP pv_D hS (fun q h => Nat.le_trans C.2.2.2.2.2.1 h) ha (nI_pos hn) (nI_clamp hn) hbytes hc hs hd (fun q cA H1 hK1 hP1 hD1 hS1 => ?_)
  have hcA : cA = ty t := by
    have h1 : va_RA s cA fty := (hK1.2 (pv_tys ty).length (cA, fty) (by rw [List.getElem?_append_right (Nat.le_refl _), Nat.sub_self]; rfl)).2
    exact pv_RA_inj h1 (C.2.1.1.2 t _ (htt ty)).2
  subst hcA
  intro T9 hT X
  have hz := X.heapSize
  rw [hT, hE s C.2.2.2.2.2.2] at hz
  have hq := pv_fresh hP1 hD1 (by omega)
  subst hq
  refine kk p e s m args below meth c C H1 locs ls hl ?_ hS1 T9 hT X
  rw [pv_w_push]
  show va_P D pv_cl (_ ++ [(_, .inl (ty t, n, pv_ta (pv_ad base b) x0))]) H1
  rw [hx0]
  exact hP1
theorem pv_newq3 {n n0 idx : Nat} (hE : ∀ s, Ex s → s.heap.size = base + n0) (hc0 : n0 + cells = M.length) (hlink : Cond.classLink own idx pv_RN ∈ pv_T) (hn : n < 2 ^ 31) (hbytes : n * 4 ≤ 536870912) (hc : cells + 1 ≤ R.cells) (hs : slots + n ≤ R.slots) (hd : decode cc pc = .ok (.anewarray idx, 3))
    (kk : pv_V l D ty base b cc nL own ret nm R Ex Qf (cells + 1) (slots + n) (pc + 3) L (.ref (M.length + 1) :: st) (M ++ [.inl (3, n, .inr (.inr (.inr (.inr (fun _ => none)))))])) : pv_V l D ty base b cc nL own ret nm R Ex Qf cells slots pc L (.int (nI n) :: st) M := by
  intro p e s m args below meth c C H locs ls hl hP hS
  have hts := C.1.2.2.2.2
  refine va_newq (C := pv_RN) C.1.1 C.1.2.1 C.1.2.2.2.1 (hts _ hlink) C.2.1.2.1 C.2.1.1 hP pv_D hS (fun q h => Nat.le_trans C.2.2.2.2.2.1 h) (nI_pos hn) (nI_clamp hn) hbytes hc hs hd (fun q cA H1 hK1 hP1 hD1 hS1 => ?_)
  have hcA : cA = ty 3 := by
    have h1 : va_RA s cA (.object pv_RN) := (hK1.2 (pv_tys ty).length (cA, .object pv_RN) (by rw [List.getElem?_append_right (Nat.le_refl _), Nat.sub_self]; rfl)).2
    exact pv_RA_inj h1 (C.2.1.1.2 3 _ rfl).2
  subst hcA
  intro T9 hT X
  have hz := X.heapSize
  rw [hT, hE s C.2.2.2.2.2.2] at hz
  have hq := pv_fresh hP1 hD1 (by omega)
  subst hq
  refine kk p e s m args below meth c C H1 locs ls hl ?_ hS1 T9 hT X
  rw [pv_w_push]
  exact hP1
theorem pv_newq4 {n n0 idx : Nat} (hE : ∀ s, Ex s → s.heap.size = base + n0) (hc0 : n0 + cells = M.length) (hlink : Cond.classLink own idx pv_RR ∈ pv_T) (hn : n < 2 ^ 31) (hbytes : n * 4 ≤ 536870912) (hc : cells + 1 ≤ R.cells) (hs : slots + n ≤ R.slots) (hd : decode cc pc = .ok (.anewarray idx, 3))
    (kk : pv_V l D ty base b cc nL own ret nm R Ex Qf (cells + 1) (slots + n) (pc + 3) L (.ref (M.length + 1) :: st) (M ++ [.inl (4, n, .inr (.inr (.inr (.inr (fun _ => none)))))])) : pv_V l D ty base b cc nL own ret nm R Ex Qf cells slots pc L (.int (nI n) :: st) M := by
  intro p e s m args below meth c C H locs ls hl hP hS
  have hts := C.1.2.2.2.2
  refine va_newq (C := pv_RR) C.1.1 C.1.2.1 C.1.2.2.2.1 (hts _ hlink) C.2.1.2.2.1 C.2.1.1 hP pv_D hS (fun q h => Nat.le_trans C.2.2.2.2.2.1 h) (nI_pos hn) (nI_clamp hn) hbytes hc hs hd (fun q cA H1 hK1 hP1 hD1 hS1 => ?_)
  have hcA : cA = ty 4 := by
    have h1 : va_RA s cA (.object pv_RR) := (hK1.2 (pv_tys ty).length (cA, .object pv_RR) (by rw [List.getElem?_append_right (Nat.le_refl _), Nat.sub_self]; rfl)).2
    exact pv_RA_inj h1 (C.2.1.1.2 4 _ rfl).2
  subst hcA
  intro T9 hT X
  have hz := X.heapSize
  rw [hT, hE s C.2.2.2.2.2.2] at hz
  have hq := pv_fresh hP1 hD1 (by omega)
  subst hq
  refine kk p e s m args below meth c C H1 locs ls hl ?_ hS1 T9 hT X
  rw [pv_w_push]
  exact hP1
theorem pv_objInit {idx : Nat} {x : Nat} (hlk : Cond.methodLink own idx objectInit ∈ pv_T) (hin : Cond.instanceMethod objectInit ∈ pv_T) (hco : Cond.code objectInit ⟨#[0xb1]⟩ 1 none ∈ pv_T) (hR : 1 ≤ R.frames) (hR2 : 20 ≤ R.locals) (hw : (st.map fun v => v.category).sum ≤ 8) (hd : decode cc pc = .ok (.invokespecial idx, 3)) (kk : pv_V l D ty base b cc nL own ret nm R Ex Qf cells slots (pc + 3) L st M) : pv_V l D ty base b cc nL own ret nm R Ex Qf cells slots pc L (.ref x :: st) M := by
  intro p e s m args below meth c C H locs ls hl hP hS
  have hts := C.1.2.2.2.2
  have hw9 : ((st.map (pv_tr (pv_ad base b))).map fun v => v.category).sum ≤ 8 := by rw [pv_cats]; exact hw
  refine W.objInit C.1.1 C.1.2.1 C.1.2.2.2.1 (hts _ hlk) (hts _ hin) (hts _ hco) rfl (by rw [C.1.2.2.1]; exact hl.1) rfl hd hR (by show _ ≤ R.locals; simp only [F0]; omega) (kk p e s m args below meth c C H locs ls hl hP hS)
theorem pv_mmax {idx : Nat} {x y : Int32} (hlk : Cond.methodLink own idx Lib.Math.max.name ∈ pv_T) (hst : Cond.static Lib.Math.max.name ∈ pv_T) (hini : Cond.initialized "java/lang/Math" ∈ pv_T) (hco : Cond.code Lib.Math.max.name Lib.Math.max.code 2 (some .int) ∈ pv_T) (hR : 1 ≤ R.frames) (hR2 : 21 ≤ R.locals) (hw : (st.map fun v => v.category).sum ≤ 8) (hc : cells ≤ R.cells) (hs : slots ≤ R.slots) (hd : decode cc pc = .ok (.invokestatic idx, 3)) (kk : pv_V l D ty base b cc nL own ret nm R Ex Qf cells slots (pc + 3) L (.int (if x < y then y else x) :: st) M) : pv_V l D ty base b cc nL own ret nm R Ex Qf cells slots pc L (.int y :: .int x :: st) M := by
  intro p e s m args below meth c C H locs ls hl hP hS
  have hts := C.1.2.2.2.2
  have hw9 : ((st.map (pv_tr (pv_ad base b))).map fun v => v.category).sum ≤ 8 := by rw [pv_cats]; exact hw
  exact va_mmax C.1.1 C.1.2.1 (C.1.2.2.1.trans hl.1.symm) C.1.2.2.2.1 (hts _ hlk) (hts _ hst) (hts _ hini) (hts _ hco) hR (by omega) hc hs hd (kk p e s m args below meth c C H locs ls hl hP hS)
theorem pv_mmin {idx : Nat} {x y : Int32} (hlk : Cond.methodLink own idx Lib.Math.min.name ∈ pv_T) (hst : Cond.static Lib.Math.min.name ∈ pv_T) (hini : Cond.initialized "java/lang/Math" ∈ pv_T) (hco : Cond.code Lib.Math.min.name Lib.Math.min.code 2 (some .int) ∈ pv_T) (hR : 1 ≤ R.frames) (hR2 : 21 ≤ R.locals) (hw : (st.map fun v => v.category).sum ≤ 8) (hc : cells ≤ R.cells) (hs : slots ≤ R.slots) (hd : decode cc pc = .ok (.invokestatic idx, 3)) (kk : pv_V l D ty base b cc nL own ret nm R Ex Qf cells slots (pc + 3) L (.int (if y < x then y else x) :: st) M) : pv_V l D ty base b cc nL own ret nm R Ex Qf cells slots pc L (.int y :: .int x :: st) M := by
  intro p e s m args below meth c C H locs ls hl hP hS
  have hts := C.1.2.2.2.2
  have hw9 : ((st.map (pv_tr (pv_ad base b))).map fun v => v.category).sum ≤ 8 := by rw [pv_cats]; exact hw
  exact va_mmin C.1.1 C.1.2.1 (C.1.2.2.1.trans hl.1.symm) C.1.2.2.2.1 (hts _ hlk) (hts _ hst) (hts _ hini) (hts _ hco) hR (by omega) hc hs hd (kk p e s m args below meth c C H locs ls hl hP hS)
theorem pv_tswIn {dflt lo hi : Int} {offs : Array Int} {len : Nat} {x : Int32} {off : Int} (tgt : Nat) (hd : decode cc pc = .ok (.tableswitch dflt lo hi offs, len)) (h1 : ¬ x.toInt < lo) (h2 : ¬ hi < x.toInt) (ho : offs[(x.toInt - lo).toNat]? = some off) (ht : (pc : Int) + off = (tgt : Int)) (k : pv_V l D ty base b cc nL own ret nm R Ex Qf cells slots tgt L st M) : pv_V l D ty base b cc nL own ret nm R Ex Qf cells slots pc L (.int x :: st) M :=
  fun p e s m args below meth c C H locs ls hl hP hS => lv_tableIn C.1.1 C.1.2.1 hd h1 h2 ho ht (k p e s m args below meth c C H locs ls hl hP hS)
theorem pv_tswOut {dflt lo hi : Int} {offs : Array Int} {len : Nat} {x : Int32} (tgt : Nat) (hd : decode cc pc = .ok (.tableswitch dflt lo hi offs, len)) (h : x.toInt < lo ∨ hi < x.toInt) (ht : (pc : Int) + dflt = (tgt : Int)) (k : pv_V l D ty base b cc nL own ret nm R Ex Qf cells slots tgt L st M) : pv_V l D ty base b cc nL own ret nm R Ex Qf cells slots pc L (.int x :: st) M :=
  fun p e s m args below meth c C H locs ls hl hP hS => lv_tableOut C.1.1 C.1.2.1 hd h ht (k p e s m args below meth c C H locs ls hl hP hS)
end PVC
