/-! 02.pv: a walk over numbered cells. A value '.ref 0' is the script, '.ref (k + 1)' the cell k of the list M, which lies at the address base + k. -/
section PVDEF
def pv_ad (base b : Nat) (k : Nat) : Nat := match k with
  | 0 => b
  | j + 1 => base + j
def pv_tr (ad : Nat → Nat) (v : Value) : Value := match v with
  | .ref k => .ref (ad k)
  | .int x => .int x
  | .long x => .long x
  | .float x => .float x
  | .double x => .double x
  | .null => .null
  | .retAddr x => .retAddr x
def pv_ta (ad : Nat → Nat) (f : (Nat → Int32) ⊕ (Nat → Int64) ⊕ (Nat → UInt32) ⊕ (Nat → UInt64) ⊕ (Nat → Option Nat)) : (Nat → Int32) ⊕ (Nat → Int64) ⊕ (Nat → UInt32) ⊕ (Nat → UInt64) ⊕ (Nat → Option Nat) := match f with
  | .inl f => .inl f
  | .inr (.inl f) => .inr (.inl f)
  | .inr (.inr (.inl f)) => .inr (.inr (.inl f))
  | .inr (.inr (.inr (.inl f))) => .inr (.inr (.inr (.inl f)))
  | .inr (.inr (.inr (.inr f))) => .inr (.inr (.inr (.inr (fun j => (f j).map ad))))
def pv_te (ty : Nat → ClassId) (ad : Nat → Nat) (e : va_E) : va_E := match e with
  | .inl a => .inl (ty a.1, a.2.1, pv_ta ad a.2.2)
  | .inr q => .inr (q.1, q.2.map (pv_tr ad))
def pv_w (ty : Nat → ClassId) (base b : Nat) (M : List va_E) : va_W := M.mapIdx (fun k e => (base + k, pv_te ty (pv_ad base b) e))
theorem pv_w_get {ty : Nat → ClassId} {base b k : Nat} {M : List va_E} {e : va_E} (h : M[k]? = some e) : (pv_w ty base b M)[k]? = some (base + k, pv_te ty (pv_ad base b) e) := by
  simp [pv_w, List.getElem?_mapIdx, h]
theorem pv_w_inv {ty : Nat → ClassId} {base b k : Nat} {M : List va_E} {q : Nat × va_E} (h : (pv_w ty base b M)[k]? = some q) : q.1 = base + k ∧ k < M.length := by
  simp only [pv_w, List.getElem?_mapIdx, Option.map_eq_some_iff] at h
  obtain ⟨a, h1, h2⟩ := h
  exact ⟨by rw [← h2], (List.getElem?_eq_some_iff.mp h1).1⟩
theorem pv_w_set {ty : Nat → ClassId} {base b k : Nat} {M : List va_E} {e : va_E} : (pv_w ty base b M).set k (base + k, pv_te ty (pv_ad base b) e) = pv_w ty base b (M.set k e) := by
  apply List.ext_getElem?
  intro i
  by_cases h : k = i
  · subst h
    simp only [pv_w, List.getElem?_set_self', List.getElem?_mapIdx]
    cases M[k]? <;> rfl
  · simp only [pv_w, List.getElem?_set_ne h, List.getElem?_mapIdx]
theorem pv_w_push {ty : Nat → ClassId} {base b : Nat} {M : List va_E} {e : va_E} : pv_w ty base b (M ++ [e]) = pv_w ty base b M ++ [(base + M.length, pv_te ty (pv_ad base b) e)] := by
  simp [pv_w, List.mapIdx_append]
theorem pv_D {ty : Nat → ClassId} {base b : Nat} {M : List va_E} : va_D (fun q => base ≤ q) (pv_w ty base b M) := by
  refine ⟨fun i j x y hi hj hxy => ?_, fun k q hk => ?_⟩
  · have h1 := (pv_w_inv hi).1
    have h2 := (pv_w_inv hj).1
    omega
  · have h1 := (pv_w_inv hk).1
    show base ≤ q.1
    omega
/-- the locals that are known -/
def pv_l (ad : Nat → Nat) : Nat → List (Option Value) → List (Nat × Value)
  | _, [] => []
  | i, none :: t => pv_l ad (i + 1) t
  | i, some v :: t => (i, pv_tr ad v) :: pv_l ad (i + 1) t
theorem pv_l_in {ad : Nat → Nat} : ∀ (L : List (Option Value)) (i k : Nat) (v : Value), L[k]? = some (some v) → (i + k, pv_tr ad v) ∈ pv_l ad i L
  | [], _, _, _, h => by simp at h
  | none :: t, i, 0, v, h => by simp at h
  | some w :: t, i, 0, v, h => by
    simp at h
    subst h
    exact List.mem_cons_self
  | none :: t, i, k + 1, v, h => by
    have := pv_l_in (ad := ad) t (i + 1) k v (by simpa using h)
    rw [show i + (k + 1) = i + 1 + k by omega]
    exact this
  | some w :: t, i, k + 1, v, h => by
    have := pv_l_in (ad := ad) t (i + 1) k v (by simpa using h)
    rw [show i + (k + 1) = i + 1 + k by omega]
    exact List.mem_cons_of_mem _ this
theorem pv_l_of {ad : Nat → Nat} : ∀ (L : List (Option Value)) (i : Nat) (q : Nat × Value), q ∈ pv_l ad i L → ∃ (k : Nat) (v : Value), L[k]? = some (some v) ∧ q = (i + k, pv_tr ad v)
  | [], _, _, h => by simp [pv_l] at h
  | none :: t, i, q, h => by
    obtain ⟨k, v, h1, h2⟩ := pv_l_of (ad := ad) t (i + 1) q h
    exact ⟨k + 1, v, by simpa using h1, by rw [h2, show i + 1 + k = i + (k + 1) by omega]⟩
  | some w :: t, i, q, h => by
    rcases List.mem_cons.mp h with rfl | h
    · exact ⟨0, w, rfl, rfl⟩
    · obtain ⟨k, v, h1, h2⟩ := pv_l_of (ad := ad) t (i + 1) q h
      exact ⟨k + 1, v, by simpa using h1, by rw [h2, show i + 1 + k = i + (k + 1) by omega]⟩
theorem pv_at {ad : Nat → Nat} {ls : Array Slot} {nL k : Nat} {L : List (Option Value)} {v : Value} (h : lv_has ls nL (pv_l ad 0 L)) (hk : L[k]? = some (some v)) : ls[k]? = some (.val (pv_tr ad v)) := by
  have := h.2.2 _ (pv_l_in L 0 k v hk)
  simpa using this
theorem pv_cat (ad : Nat → Nat) (v : Value) : (pv_tr ad v).category = v.category := by cases v <;> rfl
theorem pv_keep {ad : Nat → Nat} {ls : Array Slot} {nL i : Nat} {L : List (Option Value)} {v : Value} {F : Nat × Value → Bool} (h : lv_has ls nL ((i, pv_tr ad v) :: (pv_l ad 0 L).filter F)) (hF : ∀ (k : Nat) (w : Value), L[k]? = some (some w) → k ≠ i → F (k, pv_tr ad w) = true) (hi : i < L.length) : lv_has ls nL (pv_l ad 0 (L.set i (some v))) := by
  refine ⟨h.1, h.2.1, fun q hq => ?_⟩
  obtain ⟨k, w, h1, h2⟩ := pv_l_of _ _ q hq
  subst h2
  refine h.2.2 _ ?_
  by_cases hk : i = k
  · subst hk
    rw [List.getElem?_set_self hi] at h1
    cases h1
    simp
  · rw [List.getElem?_set_ne hk] at h1
    refine List.mem_cons_of_mem _ (List.mem_filter.mpr ⟨pv_l_in L 0 k w h1, ?_⟩)
    rw [Nat.zero_add]
    exact hF k w h1 (fun z => hk z.symm)
/-- the local ahead of i is no long -/
def pv_n2 (L : List (Option Value)) (i : Nat) : Bool := match i with
  | 0 => true
  | j + 1 => match L[j]? with
    | some (some (.long _)) => false
    | some (some (.double _)) => false
    | _ => true
theorem pv_n2_spec {L : List (Option Value)} {i k : Nat} {w : Value} (h : pv_n2 L i = true) (hk : L[k]? = some (some w)) (e : k + 1 = i) : ¬ w.category = 2 := by
  subst e
  simp only [pv_n2, hk] at h
  cases w <;> simp_all [Value.category]
theorem pv_keep1 {ad : Nat → Nat} {ls : Array Slot} {nL i : Nat} {L : List (Option Value)} {v w : Value} (hw : pv_tr ad v = w) (hn : pv_n2 L i = true) (hi : i < L.length) (h : lv_has ls nL ((i, w) :: (pv_l ad 0 L).filter (fun q => !(q.1 == i) && !(q.1 + 1 == i && q.2.category == 2)))) : lv_has ls nL (pv_l ad 0 (L.set i (some v))) := by
  subst hw
  refine pv_keep h (fun k w h1 h2 => ?_) hi
  have h3 := pv_n2_spec (k := k) (w := w) hn h1
  simp only [pv_cat]
  by_cases e : k + 1 = i
  · simp [h2, e, h3 e]
  · simp [h2, e]
theorem pv_keep2 {ad : Nat → Nat} {ls : Array Slot} {nL i : Nat} {L : List (Option Value)} {x : Int64} (hn : pv_n2 L i = true) (hi : i < L.length) (hs : ∀ w, L[i + 1]? ≠ some (some w)) (h : lv_has ls nL ((i, Value.long x) :: (pv_l ad 0 L).filter (fun q => !(q.1 == i) && (!(q.1 == i + 1) && !(q.1 + 1 == i && q.2.category == 2))))) : lv_has ls nL (pv_l ad 0 (L.set i (some (.long x)))) := by
  refine pv_keep (v := .long x) h (fun k w h1 h2 => ?_) hi
  have h3 := pv_n2_spec (k := k) (w := w) hn h1
  have h4 : ¬ k = i + 1 := fun z => hs w (z ▸ h1)
  simp only [pv_cat]
  by_cases e : k + 1 = i
  · simp [h2, e, h3 e, h4]
  · simp [h2, e, h4]
end PVDEF

section PV
/-- what a method's body may use of its state: the machine, the code, the words, the tables, its own kind -/
def pv_C (D : va_G) (ty : Nat → ClassId) (base : Nat) (cc : ByteArray) (nL : Nat) (own : String) (ret : Option FieldType) (nm : String) (Ex : State → Prop) (p : Program) (s : State) (m : MethodId) (args : Array Value) (meth : Method) (c : Code) : Prop :=
  CallFix p m c cc nL s args pv_T own ∧ pv_K D ty s ∧ meth.sig.returnType = ret ∧ meth.locks = false ∧ meth.name = nm ∧ base ≤ s.heap.size ∧ Ex s
def pv_V (l : Launch) (D : va_G) (ty : Nat → ClassId) (base b : Nat) (cc : ByteArray) (nL : Nat) (own : String) (ret : Option FieldType) (nm : String) (R : Room) (Ex : State → Prop) (Qf : List Frame → Array Value → State → State → Prop) (cells slots pc : Nat) (L : List (Option Value)) (st : List Value) (M : List va_E) : Prop :=
  ∀ (p : Program) (e : Env) (s : State) (m : MethodId) (args : Array Value) (below : List Frame) (meth : Method) (c : Code), pv_C D ty base cc nL own ret nm Ex p s m args meth c →
  ∀ (H : Heap) (locs : List Loc) (ls : Array Slot), lv_has ls nL (pv_l (pv_ad base b) 0 L) → va_P D pv_cl (pv_w ty base b M) H → va_S (fun q => base ≤ q) s.heap H locs →
  W p l e R s m args below meth c H locs cells slots (Qf below args s) (F0 m pc ls (st.map (pv_tr (pv_ad base b))))
variable {l : Launch} {D : va_G} {ty : Nat → ClassId} {base b : Nat} {cc : ByteArray} {nL : Nat} {own : String} {ret : Option FieldType} {nm : String} {R : Room} {Ex : State → Prop} {Qf : List Frame → Array Value → State → State → Prop} {cells slots pc : Nat} {L : List (Option Value)} {st : List Value} {M : List va_E}

theorem pv_iconst {n : Int} (hd : decode cc pc = .ok (.iconst n, 1)) (v : Int32) (hv : Int32.ofInt n = v) (k : pv_V l D ty base b cc nL own ret nm R Ex Qf cells slots (pc + 1) L (.int v :: st) M) : pv_V l D ty base b cc nL own ret nm R Ex Qf cells slots pc L (st) M :=
  fun p e s m args below meth c C H locs ls hl hP hS => lv_iconst C.1.1 C.1.2.1 hd hv (k p e s m args below meth c C H locs ls hl hP hS)
theorem pv_bipush {n : Int} (hd : decode cc pc = .ok (.bipush n, 2)) (v : Int32) (hv : (Int8.ofInt n).toInt32 = v) (k : pv_V l D ty base b cc nL own ret nm R Ex Qf cells slots (pc + 2) L (.int v :: st) M) : pv_V l D ty base b cc nL own ret nm R Ex Qf cells slots pc L (st) M :=
  fun p e s m args below meth c C H locs ls hl hP hS => lv_bipush C.1.1 C.1.2.1 hd hv (k p e s m args below meth c C H locs ls hl hP hS)
theorem pv_sipush {n : Int} (hd : decode cc pc = .ok (.sipush n, 3)) (v : Int32) (hv : (Int16.ofInt n).toInt32 = v) (k : pv_V l D ty base b cc nL own ret nm R Ex Qf cells slots (pc + 3) L (.int v :: st) M) : pv_V l D ty base b cc nL own ret nm R Ex Qf cells slots pc L (st) M :=
  fun p e s m args below meth c C H locs ls hl hP hS => lv_sipush C.1.1 C.1.2.1 hd hv (k p e s m args below meth c C H locs ls hl hP hS)
theorem pv_lconst {n : Fin 2} (hd : decode cc pc = .ok (.lconst n, 1)) (v : Int64) (hv : Int64.ofNat (n : Nat) = v) (k : pv_V l D ty base b cc nL own ret nm R Ex Qf cells slots (pc + 1) L (.long v :: st) M) : pv_V l D ty base b cc nL own ret nm R Ex Qf cells slots pc L (st) M :=
  fun p e s m args below meth c C H locs ls hl hP hS => lv_lconst C.1.1 C.1.2.1 hd hv (k p e s m args below meth c C H locs ls hl hP hS)
theorem pv_ldc2 {i : Nat} {v : Int64} (hd : decode cc pc = .ok (.ldc2_w i, 3)) (hw : Cond.constantLong own i v ∈ pv_T) (k : pv_V l D ty base b cc nL own ret nm R Ex Qf cells slots (pc + 3) L (.long v :: st) M) : pv_V l D ty base b cc nL own ret nm R Ex Qf cells slots pc L (st) M :=
  fun p e s m args below meth c C H locs ls hl hP hS => lv_ldc2 C.1.1 C.1.2.1 C.1.2.2.2.1 (C.1.2.2.2.2 _ hw) hd (k p e s m args below meth c C H locs ls hl hP hS)
theorem pv_null (hd : decode cc pc = .ok (.aconst_null, 1)) (k : pv_V l D ty base b cc nL own ret nm R Ex Qf cells slots (pc + 1) L (.null :: st) M) : pv_V l D ty base b cc nL own ret nm R Ex Qf cells slots pc L (st) M :=
  fun p e s m args below meth c C H locs ls hl hP hS => lv_null C.1.1 C.1.2.1 hd (k p e s m args below meth c C H locs ls hl hP hS)
theorem pv_iload_n {x : Int32} {j : Fin 4} {i : Nat} (hd : decode cc pc = .ok (.iload_n j, 1)) (hi : (j : Nat) = i) (hL : L[i]? = some (some (.int x))) (k : pv_V l D ty base b cc nL own ret nm R Ex Qf cells slots (pc + 1) L (.int x :: st) M) : pv_V l D ty base b cc nL own ret nm R Ex Qf cells slots pc L (st) M :=
  fun p e s m args below meth c C H locs ls hl hP hS => lv_iload_n C.1.1 C.1.2.1 hd hi (pv_at hl hL) (k p e s m args below meth c C H locs ls hl hP hS)
theorem pv_iload {x : Int32} {i : Nat} (hd : decode cc pc = .ok (.iload i, 2)) (hL : L[i]? = some (some (.int x))) (k : pv_V l D ty base b cc nL own ret nm R Ex Qf cells slots (pc + 2) L (.int x :: st) M) : pv_V l D ty base b cc nL own ret nm R Ex Qf cells slots pc L (st) M :=
  fun p e s m args below meth c C H locs ls hl hP hS => lv_iload C.1.1 C.1.2.1 hd (pv_at hl hL) (k p e s m args below meth c C H locs ls hl hP hS)
theorem pv_lload_n {x : Int64} {j : Fin 4} {i : Nat} (hd : decode cc pc = .ok (.lload_n j, 1)) (hi : (j : Nat) = i) (hL : L[i]? = some (some (.long x))) (k : pv_V l D ty base b cc nL own ret nm R Ex Qf cells slots (pc + 1) L (.long x :: st) M) : pv_V l D ty base b cc nL own ret nm R Ex Qf cells slots pc L (st) M :=
  fun p e s m args below meth c C H locs ls hl hP hS => lv_lload_n C.1.1 C.1.2.1 hd hi (pv_at hl hL) (k p e s m args below meth c C H locs ls hl hP hS)
theorem pv_lload {x : Int64} {i : Nat} (hd : decode cc pc = .ok (.lload i, 2)) (hL : L[i]? = some (some (.long x))) (k : pv_V l D ty base b cc nL own ret nm R Ex Qf cells slots (pc + 2) L (.long x :: st) M) : pv_V l D ty base b cc nL own ret nm R Ex Qf cells slots pc L (st) M :=
  fun p e s m args below meth c C H locs ls hl hP hS => lv_lload C.1.1 C.1.2.1 hd (pv_at hl hL) (k p e s m args below meth c C H locs ls hl hP hS)
theorem pv_aload_n {x : Nat} {j : Fin 4} {i : Nat} (hd : decode cc pc = .ok (.aload_n j, 1)) (hi : (j : Nat) = i) (hL : L[i]? = some (some (.ref x))) (k : pv_V l D ty base b cc nL own ret nm R Ex Qf cells slots (pc + 1) L (.ref x :: st) M) : pv_V l D ty base b cc nL own ret nm R Ex Qf cells slots pc L (st) M :=
  fun p e s m args below meth c C H locs ls hl hP hS => lv_aload_n C.1.1 C.1.2.1 hd hi (pv_at hl hL) (k p e s m args below meth c C H locs ls hl hP hS)
theorem pv_aload {x : Nat} {i : Nat} (hd : decode cc pc = .ok (.aload i, 2)) (hL : L[i]? = some (some (.ref x))) (k : pv_V l D ty base b cc nL own ret nm R Ex Qf cells slots (pc + 2) L (.ref x :: st) M) : pv_V l D ty base b cc nL own ret nm R Ex Qf cells slots pc L (st) M :=
  fun p e s m args below meth c C H locs ls hl hP hS => lv_aload C.1.1 C.1.2.1 hd (pv_at hl hL) (k p e s m args below meth c C H locs ls hl hP hS)
theorem pv_a0load_n {j : Fin 4} {i : Nat} (hd : decode cc pc = .ok (.aload_n j, 1)) (hi : (j : Nat) = i) (hL : L[i]? = some (some (.null))) (k : pv_V l D ty base b cc nL own ret nm R Ex Qf cells slots (pc + 1) L (.null :: st) M) : pv_V l D ty base b cc nL own ret nm R Ex Qf cells slots pc L (st) M :=
  fun p e s m args below meth c C H locs ls hl hP hS => lv_aload_nN C.1.1 C.1.2.1 hd hi (pv_at hl hL) (k p e s m args below meth c C H locs ls hl hP hS)
theorem pv_a0load {i : Nat} (hd : decode cc pc = .ok (.aload i, 2)) (hL : L[i]? = some (some (.null))) (k : pv_V l D ty base b cc nL own ret nm R Ex Qf cells slots (pc + 2) L (.null :: st) M) : pv_V l D ty base b cc nL own ret nm R Ex Qf cells slots pc L (st) M :=
  fun p e s m args below meth c C H locs ls hl hP hS => lv_aloadN C.1.1 C.1.2.1 hd (pv_at hl hL) (k p e s m args below meth c C H locs ls hl hP hS)
theorem pv_istore_n {x : Int32} {j : Fin 4} {i : Nat} (hd : decode cc pc = .ok (.istore_n j, 1)) (hij : (j : Nat) = i) (hn : pv_n2 L i = true) (hi : i < L.length) (hnL : i < nL) (k : pv_V l D ty base b cc nL own ret nm R Ex Qf cells slots (pc + 1) (L.set i (some (.int x))) (st) M) : pv_V l D ty base b cc nL own ret nm R Ex Qf cells slots pc L (.int x :: st) M :=
  fun p e s m args below meth c C H locs ls hl hP hS => lv_istore_n C.1.1 C.1.2.1 hd hij hl hnL rfl (fun ls hl1 => k p e s m args below meth c C H locs ls (pv_keep1 (v := .int x) rfl hn hi hl1) hP hS)
theorem pv_istore {x : Int32} {i : Nat} (hd : decode cc pc = .ok (.istore i, 2)) (hn : pv_n2 L i = true) (hi : i < L.length) (hnL : i < nL) (k : pv_V l D ty base b cc nL own ret nm R Ex Qf cells slots (pc + 2) (L.set i (some (.int x))) (st) M) : pv_V l D ty base b cc nL own ret nm R Ex Qf cells slots pc L (.int x :: st) M :=
  fun p e s m args below meth c C H locs ls hl hP hS => lv_istore C.1.1 C.1.2.1 hd hl hnL rfl (fun ls hl1 => k p e s m args below meth c C H locs ls (pv_keep1 (v := .int x) rfl hn hi hl1) hP hS)
theorem pv_astore_n {x : Nat} {j : Fin 4} {i : Nat} (hd : decode cc pc = .ok (.astore_n j, 1)) (hij : (j : Nat) = i) (hn : pv_n2 L i = true) (hi : i < L.length) (hnL : i < nL) (k : pv_V l D ty base b cc nL own ret nm R Ex Qf cells slots (pc + 1) (L.set i (some (.ref x))) (st) M) : pv_V l D ty base b cc nL own ret nm R Ex Qf cells slots pc L (.ref x :: st) M :=
  fun p e s m args below meth c C H locs ls hl hP hS => lv_astore_n C.1.1 C.1.2.1 hd hij hl hnL rfl (fun ls hl1 => k p e s m args below meth c C H locs ls (pv_keep1 (v := .ref x) rfl hn hi hl1) hP hS)
theorem pv_astore {x : Nat} {i : Nat} (hd : decode cc pc = .ok (.astore i, 2)) (hn : pv_n2 L i = true) (hi : i < L.length) (hnL : i < nL) (k : pv_V l D ty base b cc nL own ret nm R Ex Qf cells slots (pc + 2) (L.set i (some (.ref x))) (st) M) : pv_V l D ty base b cc nL own ret nm R Ex Qf cells slots pc L (.ref x :: st) M :=
  fun p e s m args below meth c C H locs ls hl hP hS => lv_astore C.1.1 C.1.2.1 hd hl hnL rfl (fun ls hl1 => k p e s m args below meth c C H locs ls (pv_keep1 (v := .ref x) rfl hn hi hl1) hP hS)
theorem pv_a0store_n {j : Fin 4} {i : Nat} (hd : decode cc pc = .ok (.astore_n j, 1)) (hij : (j : Nat) = i) (hn : pv_n2 L i = true) (hi : i < L.length) (hnL : i < nL) (k : pv_V l D ty base b cc nL own ret nm R Ex Qf cells slots (pc + 1) (L.set i (some (.null))) (st) M) : pv_V l D ty base b cc nL own ret nm R Ex Qf cells slots pc L (.null :: st) M :=
  fun p e s m args below meth c C H locs ls hl hP hS => lv_astore_nN C.1.1 C.1.2.1 hd hij hl hnL rfl (fun ls hl1 => k p e s m args below meth c C H locs ls (pv_keep1 (v := .null) rfl hn hi hl1) hP hS)
theorem pv_a0store {i : Nat} (hd : decode cc pc = .ok (.astore i, 2)) (hn : pv_n2 L i = true) (hi : i < L.length) (hnL : i < nL) (k : pv_V l D ty base b cc nL own ret nm R Ex Qf cells slots (pc + 2) (L.set i (some (.null))) (st) M) : pv_V l D ty base b cc nL own ret nm R Ex Qf cells slots pc L (.null :: st) M :=
  fun p e s m args below meth c C H locs ls hl hP hS => lv_astoreN C.1.1 C.1.2.1 hd hl hnL rfl (fun ls hl1 => k p e s m args below meth c C H locs ls (pv_keep1 (v := .null) rfl hn hi hl1) hP hS)
theorem pv_lstore_n {x : Int64} {j : Fin 4} {i : Nat} (hd : decode cc pc = .ok (.lstore_n j, 1)) (hij : (j : Nat) = i) (hn : pv_n2 L i = true) (hi : i < L.length) (hs : ∀ w, L[i + 1]? ≠ some (some w)) (hnL : i + 1 < nL) (k : pv_V l D ty base b cc nL own ret nm R Ex Qf cells slots (pc + 1) (L.set i (some (.long x))) (st) M) : pv_V l D ty base b cc nL own ret nm R Ex Qf cells slots pc L (.long x :: st) M :=
  fun p e s m args below meth c C H locs ls hl hP hS => lv_lstore_n C.1.1 C.1.2.1 hd hij hl hnL rfl (fun ls hl1 => k p e s m args below meth c C H locs ls (pv_keep2 hn hi hs hl1) hP hS)
theorem pv_iinc {i : Nat} {n : Int} {x : Int32} (hd : decode cc pc = .ok (.iinc i n, 3)) (v : Int32) (hL : L[i]? = some (some (.int x))) (hv : x + Int32.ofInt n = v) (hn : pv_n2 L i = true) (hi : i < L.length) (hnL : i < nL) (k : pv_V l D ty base b cc nL own ret nm R Ex Qf cells slots (pc + 3) (L.set i (some (.int v))) st M) : pv_V l D ty base b cc nL own ret nm R Ex Qf cells slots pc L st M := by
  intro p e s m args below meth c C H locs ls hl hP hS
  obtain ⟨q, hq⟩ := List.getElem?_of_mem (pv_l_in (ad := pv_ad base b) L 0 i _ hL)
  rw [Nat.zero_add] at hq
  exact lv_iinc C.1.1 C.1.2.1 hd hl hq hv hnL rfl (fun ls hl1 => k p e s m args below meth c C H locs ls (pv_keep1 (v := .int v) rfl hn hi hl1) hP hS)
theorem pv_ist0 {x : Int32} {a0 : Option Value} {t : List (Option Value)} (hd : decode cc pc = .ok (.istore_n 0, 1)) (hn : pv_n2 (a0 :: t) 0 = true) (hnL : 0 < nL) (k : pv_V l D ty base b cc nL own ret nm R Ex Qf cells slots (pc + 1) (some (.int x) :: t) st M) : pv_V l D ty base b cc nL own ret nm R Ex Qf cells slots pc (a0 :: t) (.int x :: st) M := pv_istore_n (i := 0) hd rfl hn (by simp) hnL k
theorem pv_ast0 {x : Nat} {a0 : Option Value} {t : List (Option Value)} (hd : decode cc pc = .ok (.astore_n 0, 1)) (hn : pv_n2 (a0 :: t) 0 = true) (hnL : 0 < nL) (k : pv_V l D ty base b cc nL own ret nm R Ex Qf cells slots (pc + 1) (some (.ref x) :: t) st M) : pv_V l D ty base b cc nL own ret nm R Ex Qf cells slots pc (a0 :: t) (.ref x :: st) M := pv_astore_n (i := 0) hd rfl hn (by simp) hnL k
theorem pv_a0st0  {a0 : Option Value} {t : List (Option Value)} (hd : decode cc pc = .ok (.astore_n 0, 1)) (hn : pv_n2 (a0 :: t) 0 = true) (hnL : 0 < nL) (k : pv_V l D ty base b cc nL own ret nm R Ex Qf cells slots (pc + 1) (some (.null) :: t) st M) : pv_V l D ty base b cc nL own ret nm R Ex Qf cells slots pc (a0 :: t) (.null :: st) M := pv_a0store_n (i := 0) hd rfl hn (by simp) hnL k
theorem pv_inc0 {x : Nat} {t : List (Option Value)} (hd : decode cc pc = .ok (.iinc 0 1, 3)) (hn : pv_n2 (some (.int (nI x)) :: t) 0 = true) (hnL : 0 < nL) (k : pv_V l D ty base b cc nL own ret nm R Ex Qf cells slots (pc + 3) (some (.int (nI (x + 1))) :: t) st M) : pv_V l D ty base b cc nL own ret nm R Ex Qf cells slots pc (some (.int (nI x)) :: t) st M := pv_iinc hd (nI (x + 1)) rfl (nI_succ x).symm hn (by simp) hnL k
theorem pv_ist1 {x : Int32} {a0 a1 : Option Value} {t : List (Option Value)} (hd : decode cc pc = .ok (.istore_n 1, 1)) (hn : pv_n2 (a0 :: a1 :: t) 1 = true) (hnL : 1 < nL) (k : pv_V l D ty base b cc nL own ret nm R Ex Qf cells slots (pc + 1) (a0 :: some (.int x) :: t) st M) : pv_V l D ty base b cc nL own ret nm R Ex Qf cells slots pc (a0 :: a1 :: t) (.int x :: st) M := pv_istore_n (i := 1) hd rfl hn (by simp) hnL k
theorem pv_ast1 {x : Nat} {a0 a1 : Option Value} {t : List (Option Value)} (hd : decode cc pc = .ok (.astore_n 1, 1)) (hn : pv_n2 (a0 :: a1 :: t) 1 = true) (hnL : 1 < nL) (k : pv_V l D ty base b cc nL own ret nm R Ex Qf cells slots (pc + 1) (a0 :: some (.ref x) :: t) st M) : pv_V l D ty base b cc nL own ret nm R Ex Qf cells slots pc (a0 :: a1 :: t) (.ref x :: st) M := pv_astore_n (i := 1) hd rfl hn (by simp) hnL k
theorem pv_a0st1  {a0 a1 : Option Value} {t : List (Option Value)} (hd : decode cc pc = .ok (.astore_n 1, 1)) (hn : pv_n2 (a0 :: a1 :: t) 1 = true) (hnL : 1 < nL) (k : pv_V l D ty base b cc nL own ret nm R Ex Qf cells slots (pc + 1) (a0 :: some (.null) :: t) st M) : pv_V l D ty base b cc nL own ret nm R Ex Qf cells slots pc (a0 :: a1 :: t) (.null :: st) M := pv_a0store_n (i := 1) hd rfl hn (by simp) hnL k
theorem pv_inc1 {x : Nat} {a0 : Option Value} {t : List (Option Value)} (hd : decode cc pc = .ok (.iinc 1 1, 3)) (hn : pv_n2 (a0 :: some (.int (nI x)) :: t) 1 = true) (hnL : 1 < nL) (k : pv_V l D ty base b cc nL own ret nm R Ex Qf cells slots (pc + 3) (a0 :: some (.int (nI (x + 1))) :: t) st M) : pv_V l D ty base b cc nL own ret nm R Ex Qf cells slots pc (a0 :: some (.int (nI x)) :: t) st M := pv_iinc hd (nI (x + 1)) rfl (nI_succ x).symm hn (by simp) hnL k
theorem pv_ist2 {x : Int32} {a0 a1 a2 : Option Value} {t : List (Option Value)} (hd : decode cc pc = .ok (.istore_n 2, 1)) (hn : pv_n2 (a0 :: a1 :: a2 :: t) 2 = true) (hnL : 2 < nL) (k : pv_V l D ty base b cc nL own ret nm R Ex Qf cells slots (pc + 1) (a0 :: a1 :: some (.int x) :: t) st M) : pv_V l D ty base b cc nL own ret nm R Ex Qf cells slots pc (a0 :: a1 :: a2 :: t) (.int x :: st) M := pv_istore_n (i := 2) hd rfl hn (by simp) hnL k
theorem pv_ast2 {x : Nat} {a0 a1 a2 : Option Value} {t : List (Option Value)} (hd : decode cc pc = .ok (.astore_n 2, 1)) (hn : pv_n2 (a0 :: a1 :: a2 :: t) 2 = true) (hnL : 2 < nL) (k : pv_V l D ty base b cc nL own ret nm R Ex Qf cells slots (pc + 1) (a0 :: a1 :: some (.ref x) :: t) st M) : pv_V l D ty base b cc nL own ret nm R Ex Qf cells slots pc (a0 :: a1 :: a2 :: t) (.ref x :: st) M := pv_astore_n (i := 2) hd rfl hn (by simp) hnL k
theorem pv_a0st2  {a0 a1 a2 : Option Value} {t : List (Option Value)} (hd : decode cc pc = .ok (.astore_n 2, 1)) (hn : pv_n2 (a0 :: a1 :: a2 :: t) 2 = true) (hnL : 2 < nL) (k : pv_V l D ty base b cc nL own ret nm R Ex Qf cells slots (pc + 1) (a0 :: a1 :: some (.null) :: t) st M) : pv_V l D ty base b cc nL own ret nm R Ex Qf cells slots pc (a0 :: a1 :: a2 :: t) (.null :: st) M := pv_a0store_n (i := 2) hd rfl hn (by simp) hnL k
theorem pv_inc2 {x : Nat} {a0 a1 : Option Value} {t : List (Option Value)} (hd : decode cc pc = .ok (.iinc 2 1, 3)) (hn : pv_n2 (a0 :: a1 :: some (.int (nI x)) :: t) 2 = true) (hnL : 2 < nL) (k : pv_V l D ty base b cc nL own ret nm R Ex Qf cells slots (pc + 3) (a0 :: a1 :: some (.int (nI (x + 1))) :: t) st M) : pv_V l D ty base b cc nL own ret nm R Ex Qf cells slots pc (a0 :: a1 :: some (.int (nI x)) :: t) st M := pv_iinc hd (nI (x + 1)) rfl (nI_succ x).symm hn (by simp) hnL k
theorem pv_ist3 {x : Int32} {a0 a1 a2 a3 : Option Value} {t : List (Option Value)} (hd : decode cc pc = .ok (.istore_n 3, 1)) (hn : pv_n2 (a0 :: a1 :: a2 :: a3 :: t) 3 = true) (hnL : 3 < nL) (k : pv_V l D ty base b cc nL own ret nm R Ex Qf cells slots (pc + 1) (a0 :: a1 :: a2 :: some (.int x) :: t) st M) : pv_V l D ty base b cc nL own ret nm R Ex Qf cells slots pc (a0 :: a1 :: a2 :: a3 :: t) (.int x :: st) M := pv_istore_n (i := 3) hd rfl hn (by simp) hnL k
theorem pv_ast3 {x : Nat} {a0 a1 a2 a3 : Option Value} {t : List (Option Value)} (hd : decode cc pc = .ok (.astore_n 3, 1)) (hn : pv_n2 (a0 :: a1 :: a2 :: a3 :: t) 3 = true) (hnL : 3 < nL) (k : pv_V l D ty base b cc nL own ret nm R Ex Qf cells slots (pc + 1) (a0 :: a1 :: a2 :: some (.ref x) :: t) st M) : pv_V l D ty base b cc nL own ret nm R Ex Qf cells slots pc (a0 :: a1 :: a2 :: a3 :: t) (.ref x :: st) M := pv_astore_n (i := 3) hd rfl hn (by simp) hnL k
theorem pv_a0st3  {a0 a1 a2 a3 : Option Value} {t : List (Option Value)} (hd : decode cc pc = .ok (.astore_n 3, 1)) (hn : pv_n2 (a0 :: a1 :: a2 :: a3 :: t) 3 = true) (hnL : 3 < nL) (k : pv_V l D ty base b cc nL own ret nm R Ex Qf cells slots (pc + 1) (a0 :: a1 :: a2 :: some (.null) :: t) st M) : pv_V l D ty base b cc nL own ret nm R Ex Qf cells slots pc (a0 :: a1 :: a2 :: a3 :: t) (.null :: st) M := pv_a0store_n (i := 3) hd rfl hn (by simp) hnL k
theorem pv_inc3 {x : Nat} {a0 a1 a2 : Option Value} {t : List (Option Value)} (hd : decode cc pc = .ok (.iinc 3 1, 3)) (hn : pv_n2 (a0 :: a1 :: a2 :: some (.int (nI x)) :: t) 3 = true) (hnL : 3 < nL) (k : pv_V l D ty base b cc nL own ret nm R Ex Qf cells slots (pc + 3) (a0 :: a1 :: a2 :: some (.int (nI (x + 1))) :: t) st M) : pv_V l D ty base b cc nL own ret nm R Ex Qf cells slots pc (a0 :: a1 :: a2 :: some (.int (nI x)) :: t) st M := pv_iinc hd (nI (x + 1)) rfl (nI_succ x).symm hn (by simp) hnL k
theorem pv_ist4 {x : Int32} {a0 a1 a2 a3 a4 : Option Value} {t : List (Option Value)} (hd : decode cc pc = .ok (.istore 4, 2)) (hn : pv_n2 (a0 :: a1 :: a2 :: a3 :: a4 :: t) 4 = true) (hnL : 4 < nL) (k : pv_V l D ty base b cc nL own ret nm R Ex Qf cells slots (pc + 2) (a0 :: a1 :: a2 :: a3 :: some (.int x) :: t) st M) : pv_V l D ty base b cc nL own ret nm R Ex Qf cells slots pc (a0 :: a1 :: a2 :: a3 :: a4 :: t) (.int x :: st) M := pv_istore (i := 4) hd hn (by simp) hnL k
theorem pv_ast4 {x : Nat} {a0 a1 a2 a3 a4 : Option Value} {t : List (Option Value)} (hd : decode cc pc = .ok (.astore 4, 2)) (hn : pv_n2 (a0 :: a1 :: a2 :: a3 :: a4 :: t) 4 = true) (hnL : 4 < nL) (k : pv_V l D ty base b cc nL own ret nm R Ex Qf cells slots (pc + 2) (a0 :: a1 :: a2 :: a3 :: some (.ref x) :: t) st M) : pv_V l D ty base b cc nL own ret nm R Ex Qf cells slots pc (a0 :: a1 :: a2 :: a3 :: a4 :: t) (.ref x :: st) M := pv_astore (i := 4) hd hn (by simp) hnL k
theorem pv_a0st4  {a0 a1 a2 a3 a4 : Option Value} {t : List (Option Value)} (hd : decode cc pc = .ok (.astore 4, 2)) (hn : pv_n2 (a0 :: a1 :: a2 :: a3 :: a4 :: t) 4 = true) (hnL : 4 < nL) (k : pv_V l D ty base b cc nL own ret nm R Ex Qf cells slots (pc + 2) (a0 :: a1 :: a2 :: a3 :: some (.null) :: t) st M) : pv_V l D ty base b cc nL own ret nm R Ex Qf cells slots pc (a0 :: a1 :: a2 :: a3 :: a4 :: t) (.null :: st) M := pv_a0store (i := 4) hd hn (by simp) hnL k
theorem pv_inc4 {x : Nat} {a0 a1 a2 a3 : Option Value} {t : List (Option Value)} (hd : decode cc pc = .ok (.iinc 4 1, 3)) (hn : pv_n2 (a0 :: a1 :: a2 :: a3 :: some (.int (nI x)) :: t) 4 = true) (hnL : 4 < nL) (k : pv_V l D ty base b cc nL own ret nm R Ex Qf cells slots (pc + 3) (a0 :: a1 :: a2 :: a3 :: some (.int (nI (x + 1))) :: t) st M) : pv_V l D ty base b cc nL own ret nm R Ex Qf cells slots pc (a0 :: a1 :: a2 :: a3 :: some (.int (nI x)) :: t) st M := pv_iinc hd (nI (x + 1)) rfl (nI_succ x).symm hn (by simp) hnL k
theorem pv_ist5 {x : Int32} {a0 a1 a2 a3 a4 a5 : Option Value} {t : List (Option Value)} (hd : decode cc pc = .ok (.istore 5, 2)) (hn : pv_n2 (a0 :: a1 :: a2 :: a3 :: a4 :: a5 :: t) 5 = true) (hnL : 5 < nL) (k : pv_V l D ty base b cc nL own ret nm R Ex Qf cells slots (pc + 2) (a0 :: a1 :: a2 :: a3 :: a4 :: some (.int x) :: t) st M) : pv_V l D ty base b cc nL own ret nm R Ex Qf cells slots pc (a0 :: a1 :: a2 :: a3 :: a4 :: a5 :: t) (.int x :: st) M := pv_istore (i := 5) hd hn (by simp) hnL k
theorem pv_ast5 {x : Nat} {a0 a1 a2 a3 a4 a5 : Option Value} {t : List (Option Value)} (hd : decode cc pc = .ok (.astore 5, 2)) (hn : pv_n2 (a0 :: a1 :: a2 :: a3 :: a4 :: a5 :: t) 5 = true) (hnL : 5 < nL) (k : pv_V l D ty base b cc nL own ret nm R Ex Qf cells slots (pc + 2) (a0 :: a1 :: a2 :: a3 :: a4 :: some (.ref x) :: t) st M) : pv_V l D ty base b cc nL own ret nm R Ex Qf cells slots pc (a0 :: a1 :: a2 :: a3 :: a4 :: a5 :: t) (.ref x :: st) M := pv_astore (i := 5) hd hn (by simp) hnL k
theorem pv_a0st5  {a0 a1 a2 a3 a4 a5 : Option Value} {t : List (Option Value)} (hd : decode cc pc = .ok (.astore 5, 2)) (hn : pv_n2 (a0 :: a1 :: a2 :: a3 :: a4 :: a5 :: t) 5 = true) (hnL : 5 < nL) (k : pv_V l D ty base b cc nL own ret nm R Ex Qf cells slots (pc + 2) (a0 :: a1 :: a2 :: a3 :: a4 :: some (.null) :: t) st M) : pv_V l D ty base b cc nL own ret nm R Ex Qf cells slots pc (a0 :: a1 :: a2 :: a3 :: a4 :: a5 :: t) (.null :: st) M := pv_a0store (i := 5) hd hn (by simp) hnL k
theorem pv_inc5 {x : Nat} {a0 a1 a2 a3 a4 : Option Value} {t : List (Option Value)} (hd : decode cc pc = .ok (.iinc 5 1, 3)) (hn : pv_n2 (a0 :: a1 :: a2 :: a3 :: a4 :: some (.int (nI x)) :: t) 5 = true) (hnL : 5 < nL) (k : pv_V l D ty base b cc nL own ret nm R Ex Qf cells slots (pc + 3) (a0 :: a1 :: a2 :: a3 :: a4 :: some (.int (nI (x + 1))) :: t) st M) : pv_V l D ty base b cc nL own ret nm R Ex Qf cells slots pc (a0 :: a1 :: a2 :: a3 :: a4 :: some (.int (nI x)) :: t) st M := pv_iinc hd (nI (x + 1)) rfl (nI_succ x).symm hn (by simp) hnL k
theorem pv_ist6 {x : Int32} {a0 a1 a2 a3 a4 a5 a6 : Option Value} {t : List (Option Value)} (hd : decode cc pc = .ok (.istore 6, 2)) (hn : pv_n2 (a0 :: a1 :: a2 :: a3 :: a4 :: a5 :: a6 :: t) 6 = true) (hnL : 6 < nL) (k : pv_V l D ty base b cc nL own ret nm R Ex Qf cells slots (pc + 2) (a0 :: a1 :: a2 :: a3 :: a4 :: a5 :: some (.int x) :: t) st M) : pv_V l D ty base b cc nL own ret nm R Ex Qf cells slots pc (a0 :: a1 :: a2 :: a3 :: a4 :: a5 :: a6 :: t) (.int x :: st) M := pv_istore (i := 6) hd hn (by simp) hnL k
theorem pv_ast6 {x : Nat} {a0 a1 a2 a3 a4 a5 a6 : Option Value} {t : List (Option Value)} (hd : decode cc pc = .ok (.astore 6, 2)) (hn : pv_n2 (a0 :: a1 :: a2 :: a3 :: a4 :: a5 :: a6 :: t) 6 = true) (hnL : 6 < nL) (k : pv_V l D ty base b cc nL own ret nm R Ex Qf cells slots (pc + 2) (a0 :: a1 :: a2 :: a3 :: a4 :: a5 :: some (.ref x) :: t) st M) : pv_V l D ty base b cc nL own ret nm R Ex Qf cells slots pc (a0 :: a1 :: a2 :: a3 :: a4 :: a5 :: a6 :: t) (.ref x :: st) M := pv_astore (i := 6) hd hn (by simp) hnL k
theorem pv_a0st6  {a0 a1 a2 a3 a4 a5 a6 : Option Value} {t : List (Option Value)} (hd : decode cc pc = .ok (.astore 6, 2)) (hn : pv_n2 (a0 :: a1 :: a2 :: a3 :: a4 :: a5 :: a6 :: t) 6 = true) (hnL : 6 < nL) (k : pv_V l D ty base b cc nL own ret nm R Ex Qf cells slots (pc + 2) (a0 :: a1 :: a2 :: a3 :: a4 :: a5 :: some (.null) :: t) st M) : pv_V l D ty base b cc nL own ret nm R Ex Qf cells slots pc (a0 :: a1 :: a2 :: a3 :: a4 :: a5 :: a6 :: t) (.null :: st) M := pv_a0store (i := 6) hd hn (by simp) hnL k
theorem pv_inc6 {x : Nat} {a0 a1 a2 a3 a4 a5 : Option Value} {t : List (Option Value)} (hd : decode cc pc = .ok (.iinc 6 1, 3)) (hn : pv_n2 (a0 :: a1 :: a2 :: a3 :: a4 :: a5 :: some (.int (nI x)) :: t) 6 = true) (hnL : 6 < nL) (k : pv_V l D ty base b cc nL own ret nm R Ex Qf cells slots (pc + 3) (a0 :: a1 :: a2 :: a3 :: a4 :: a5 :: some (.int (nI (x + 1))) :: t) st M) : pv_V l D ty base b cc nL own ret nm R Ex Qf cells slots pc (a0 :: a1 :: a2 :: a3 :: a4 :: a5 :: some (.int (nI x)) :: t) st M := pv_iinc hd (nI (x + 1)) rfl (nI_succ x).symm hn (by simp) hnL k
theorem pv_ist7 {x : Int32} {a0 a1 a2 a3 a4 a5 a6 a7 : Option Value} {t : List (Option Value)} (hd : decode cc pc = .ok (.istore 7, 2)) (hn : pv_n2 (a0 :: a1 :: a2 :: a3 :: a4 :: a5 :: a6 :: a7 :: t) 7 = true) (hnL : 7 < nL) (k : pv_V l D ty base b cc nL own ret nm R Ex Qf cells slots (pc + 2) (a0 :: a1 :: a2 :: a3 :: a4 :: a5 :: a6 :: some (.int x) :: t) st M) : pv_V l D ty base b cc nL own ret nm R Ex Qf cells slots pc (a0 :: a1 :: a2 :: a3 :: a4 :: a5 :: a6 :: a7 :: t) (.int x :: st) M := pv_istore (i := 7) hd hn (by simp) hnL k
theorem pv_ast7 {x : Nat} {a0 a1 a2 a3 a4 a5 a6 a7 : Option Value} {t : List (Option Value)} (hd : decode cc pc = .ok (.astore 7, 2)) (hn : pv_n2 (a0 :: a1 :: a2 :: a3 :: a4 :: a5 :: a6 :: a7 :: t) 7 = true) (hnL : 7 < nL) (k : pv_V l D ty base b cc nL own ret nm R Ex Qf cells slots (pc + 2) (a0 :: a1 :: a2 :: a3 :: a4 :: a5 :: a6 :: some (.ref x) :: t) st M) : pv_V l D ty base b cc nL own ret nm R Ex Qf cells slots pc (a0 :: a1 :: a2 :: a3 :: a4 :: a5 :: a6 :: a7 :: t) (.ref x :: st) M := pv_astore (i := 7) hd hn (by simp) hnL k
theorem pv_a0st7  {a0 a1 a2 a3 a4 a5 a6 a7 : Option Value} {t : List (Option Value)} (hd : decode cc pc = .ok (.astore 7, 2)) (hn : pv_n2 (a0 :: a1 :: a2 :: a3 :: a4 :: a5 :: a6 :: a7 :: t) 7 = true) (hnL : 7 < nL) (k : pv_V l D ty base b cc nL own ret nm R Ex Qf cells slots (pc + 2) (a0 :: a1 :: a2 :: a3 :: a4 :: a5 :: a6 :: some (.null) :: t) st M) : pv_V l D ty base b cc nL own ret nm R Ex Qf cells slots pc (a0 :: a1 :: a2 :: a3 :: a4 :: a5 :: a6 :: a7 :: t) (.null :: st) M := pv_a0store (i := 7) hd hn (by simp) hnL k
theorem pv_inc7 {x : Nat} {a0 a1 a2 a3 a4 a5 a6 : Option Value} {t : List (Option Value)} (hd : decode cc pc = .ok (.iinc 7 1, 3)) (hn : pv_n2 (a0 :: a1 :: a2 :: a3 :: a4 :: a5 :: a6 :: some (.int (nI x)) :: t) 7 = true) (hnL : 7 < nL) (k : pv_V l D ty base b cc nL own ret nm R Ex Qf cells slots (pc + 3) (a0 :: a1 :: a2 :: a3 :: a4 :: a5 :: a6 :: some (.int (nI (x + 1))) :: t) st M) : pv_V l D ty base b cc nL own ret nm R Ex Qf cells slots pc (a0 :: a1 :: a2 :: a3 :: a4 :: a5 :: a6 :: some (.int (nI x)) :: t) st M := pv_iinc hd (nI (x + 1)) rfl (nI_succ x).symm hn (by simp) hnL k
theorem pv_ist8 {x : Int32} {a0 a1 a2 a3 a4 a5 a6 a7 a8 : Option Value} {t : List (Option Value)} (hd : decode cc pc = .ok (.istore 8, 2)) (hn : pv_n2 (a0 :: a1 :: a2 :: a3 :: a4 :: a5 :: a6 :: a7 :: a8 :: t) 8 = true) (hnL : 8 < nL) (k : pv_V l D ty base b cc nL own ret nm R Ex Qf cells slots (pc + 2) (a0 :: a1 :: a2 :: a3 :: a4 :: a5 :: a6 :: a7 :: some (.int x) :: t) st M) : pv_V l D ty base b cc nL own ret nm R Ex Qf cells slots pc (a0 :: a1 :: a2 :: a3 :: a4 :: a5 :: a6 :: a7 :: a8 :: t) (.int x :: st) M := pv_istore (i := 8) hd hn (by simp) hnL k
theorem pv_ast8 {x : Nat} {a0 a1 a2 a3 a4 a5 a6 a7 a8 : Option Value} {t : List (Option Value)} (hd : decode cc pc = .ok (.astore 8, 2)) (hn : pv_n2 (a0 :: a1 :: a2 :: a3 :: a4 :: a5 :: a6 :: a7 :: a8 :: t) 8 = true) (hnL : 8 < nL) (k : pv_V l D ty base b cc nL own ret nm R Ex Qf cells slots (pc + 2) (a0 :: a1 :: a2 :: a3 :: a4 :: a5 :: a6 :: a7 :: some (.ref x) :: t) st M) : pv_V l D ty base b cc nL own ret nm R Ex Qf cells slots pc (a0 :: a1 :: a2 :: a3 :: a4 :: a5 :: a6 :: a7 :: a8 :: t) (.ref x :: st) M := pv_astore (i := 8) hd hn (by simp) hnL k
theorem pv_a0st8  {a0 a1 a2 a3 a4 a5 a6 a7 a8 : Option Value} {t : List (Option Value)} (hd : decode cc pc = .ok (.astore 8, 2)) (hn : pv_n2 (a0 :: a1 :: a2 :: a3 :: a4 :: a5 :: a6 :: a7 :: a8 :: t) 8 = true) (hnL : 8 < nL) (k : pv_V l D ty base b cc nL own ret nm R Ex Qf cells slots (pc + 2) (a0 :: a1 :: a2 :: a3 :: a4 :: a5 :: a6 :: a7 :: some (.null) :: t) st M) : pv_V l D ty base b cc nL own ret nm R Ex Qf cells slots pc (a0 :: a1 :: a2 :: a3 :: a4 :: a5 :: a6 :: a7 :: a8 :: t) (.null :: st) M := pv_a0store (i := 8) hd hn (by simp) hnL k
theorem pv_inc8 {x : Nat} {a0 a1 a2 a3 a4 a5 a6 a7 : Option Value} {t : List (Option Value)} (hd : decode cc pc = .ok (.iinc 8 1, 3)) (hn : pv_n2 (a0 :: a1 :: a2 :: a3 :: a4 :: a5 :: a6 :: a7 :: some (.int (nI x)) :: t) 8 = true) (hnL : 8 < nL) (k : pv_V l D ty base b cc nL own ret nm R Ex Qf cells slots (pc + 3) (a0 :: a1 :: a2 :: a3 :: a4 :: a5 :: a6 :: a7 :: some (.int (nI (x + 1))) :: t) st M) : pv_V l D ty base b cc nL own ret nm R Ex Qf cells slots pc (a0 :: a1 :: a2 :: a3 :: a4 :: a5 :: a6 :: a7 :: some (.int (nI x)) :: t) st M := pv_iinc hd (nI (x + 1)) rfl (nI_succ x).symm hn (by simp) hnL k
theorem pv_ist9 {x : Int32} {a0 a1 a2 a3 a4 a5 a6 a7 a8 a9 : Option Value} {t : List (Option Value)} (hd : decode cc pc = .ok (.istore 9, 2)) (hn : pv_n2 (a0 :: a1 :: a2 :: a3 :: a4 :: a5 :: a6 :: a7 :: a8 :: a9 :: t) 9 = true) (hnL : 9 < nL) (k : pv_V l D ty base b cc nL own ret nm R Ex Qf cells slots (pc + 2) (a0 :: a1 :: a2 :: a3 :: a4 :: a5 :: a6 :: a7 :: a8 :: some (.int x) :: t) st M) : pv_V l D ty base b cc nL own ret nm R Ex Qf cells slots pc (a0 :: a1 :: a2 :: a3 :: a4 :: a5 :: a6 :: a7 :: a8 :: a9 :: t) (.int x :: st) M := pv_istore (i := 9) hd hn (by simp) hnL k
theorem pv_ast9 {x : Nat} {a0 a1 a2 a3 a4 a5 a6 a7 a8 a9 : Option Value} {t : List (Option Value)} (hd : decode cc pc = .ok (.astore 9, 2)) (hn : pv_n2 (a0 :: a1 :: a2 :: a3 :: a4 :: a5 :: a6 :: a7 :: a8 :: a9 :: t) 9 = true) (hnL : 9 < nL) (k : pv_V l D ty base b cc nL own ret nm R Ex Qf cells slots (pc + 2) (a0 :: a1 :: a2 :: a3 :: a4 :: a5 :: a6 :: a7 :: a8 :: some (.ref x) :: t) st M) : pv_V l D ty base b cc nL own ret nm R Ex Qf cells slots pc (a0 :: a1 :: a2 :: a3 :: a4 :: a5 :: a6 :: a7 :: a8 :: a9 :: t) (.ref x :: st) M := pv_astore (i := 9) hd hn (by simp) hnL k
theorem pv_a0st9  {a0 a1 a2 a3 a4 a5 a6 a7 a8 a9 : Option Value} {t : List (Option Value)} (hd : decode cc pc = .ok (.astore 9, 2)) (hn : pv_n2 (a0 :: a1 :: a2 :: a3 :: a4 :: a5 :: a6 :: a7 :: a8 :: a9 :: t) 9 = true) (hnL : 9 < nL) (k : pv_V l D ty base b cc nL own ret nm R Ex Qf cells slots (pc + 2) (a0 :: a1 :: a2 :: a3 :: a4 :: a5 :: a6 :: a7 :: a8 :: some (.null) :: t) st M) : pv_V l D ty base b cc nL own ret nm R Ex Qf cells slots pc (a0 :: a1 :: a2 :: a3 :: a4 :: a5 :: a6 :: a7 :: a8 :: a9 :: t) (.null :: st) M := pv_a0store (i := 9) hd hn (by simp) hnL k
theorem pv_inc9 {x : Nat} {a0 a1 a2 a3 a4 a5 a6 a7 a8 : Option Value} {t : List (Option Value)} (hd : decode cc pc = .ok (.iinc 9 1, 3)) (hn : pv_n2 (a0 :: a1 :: a2 :: a3 :: a4 :: a5 :: a6 :: a7 :: a8 :: some (.int (nI x)) :: t) 9 = true) (hnL : 9 < nL) (k : pv_V l D ty base b cc nL own ret nm R Ex Qf cells slots (pc + 3) (a0 :: a1 :: a2 :: a3 :: a4 :: a5 :: a6 :: a7 :: a8 :: some (.int (nI (x + 1))) :: t) st M) : pv_V l D ty base b cc nL own ret nm R Ex Qf cells slots pc (a0 :: a1 :: a2 :: a3 :: a4 :: a5 :: a6 :: a7 :: a8 :: some (.int (nI x)) :: t) st M := pv_iinc hd (nI (x + 1)) rfl (nI_succ x).symm hn (by simp) hnL k
theorem pv_ist10 {x : Int32} {a0 a1 a2 a3 a4 a5 a6 a7 a8 a9 a10 : Option Value} {t : List (Option Value)} (hd : decode cc pc = .ok (.istore 10, 2)) (hn : pv_n2 (a0 :: a1 :: a2 :: a3 :: a4 :: a5 :: a6 :: a7 :: a8 :: a9 :: a10 :: t) 10 = true) (hnL : 10 < nL) (k : pv_V l D ty base b cc nL own ret nm R Ex Qf cells slots (pc + 2) (a0 :: a1 :: a2 :: a3 :: a4 :: a5 :: a6 :: a7 :: a8 :: a9 :: some (.int x) :: t) st M) : pv_V l D ty base b cc nL own ret nm R Ex Qf cells slots pc (a0 :: a1 :: a2 :: a3 :: a4 :: a5 :: a6 :: a7 :: a8 :: a9 :: a10 :: t) (.int x :: st) M := pv_istore (i := 10) hd hn (by simp) hnL k
theorem pv_ast10 {x : Nat} {a0 a1 a2 a3 a4 a5 a6 a7 a8 a9 a10 : Option Value} {t : List (Option Value)} (hd : decode cc pc = .ok (.astore 10, 2)) (hn : pv_n2 (a0 :: a1 :: a2 :: a3 :: a4 :: a5 :: a6 :: a7 :: a8 :: a9 :: a10 :: t) 10 = true) (hnL : 10 < nL) (k : pv_V l D ty base b cc nL own ret nm R Ex Qf cells slots (pc + 2) (a0 :: a1 :: a2 :: a3 :: a4 :: a5 :: a6 :: a7 :: a8 :: a9 :: some (.ref x) :: t) st M) : pv_V l D ty base b cc nL own ret nm R Ex Qf cells slots pc (a0 :: a1 :: a2 :: a3 :: a4 :: a5 :: a6 :: a7 :: a8 :: a9 :: a10 :: t) (.ref x :: st) M := pv_astore (i := 10) hd hn (by simp) hnL k
theorem pv_a0st10  {a0 a1 a2 a3 a4 a5 a6 a7 a8 a9 a10 : Option Value} {t : List (Option Value)} (hd : decode cc pc = .ok (.astore 10, 2)) (hn : pv_n2 (a0 :: a1 :: a2 :: a3 :: a4 :: a5 :: a6 :: a7 :: a8 :: a9 :: a10 :: t) 10 = true) (hnL : 10 < nL) (k : pv_V l D ty base b cc nL own ret nm R Ex Qf cells slots (pc + 2) (a0 :: a1 :: a2 :: a3 :: a4 :: a5 :: a6 :: a7 :: a8 :: a9 :: some (.null) :: t) st M) : pv_V l D ty base b cc nL own ret nm R Ex Qf cells slots pc (a0 :: a1 :: a2 :: a3 :: a4 :: a5 :: a6 :: a7 :: a8 :: a9 :: a10 :: t) (.null :: st) M := pv_a0store (i := 10) hd hn (by simp) hnL k
theorem pv_inc10 {x : Nat} {a0 a1 a2 a3 a4 a5 a6 a7 a8 a9 : Option Value} {t : List (Option Value)} (hd : decode cc pc = .ok (.iinc 10 1, 3)) (hn : pv_n2 (a0 :: a1 :: a2 :: a3 :: a4 :: a5 :: a6 :: a7 :: a8 :: a9 :: some (.int (nI x)) :: t) 10 = true) (hnL : 10 < nL) (k : pv_V l D ty base b cc nL own ret nm R Ex Qf cells slots (pc + 3) (a0 :: a1 :: a2 :: a3 :: a4 :: a5 :: a6 :: a7 :: a8 :: a9 :: some (.int (nI (x + 1))) :: t) st M) : pv_V l D ty base b cc nL own ret nm R Ex Qf cells slots pc (a0 :: a1 :: a2 :: a3 :: a4 :: a5 :: a6 :: a7 :: a8 :: a9 :: some (.int (nI x)) :: t) st M := pv_iinc hd (nI (x + 1)) rfl (nI_succ x).symm hn (by simp) hnL k
theorem pv_ist11 {x : Int32} {a0 a1 a2 a3 a4 a5 a6 a7 a8 a9 a10 a11 : Option Value} {t : List (Option Value)} (hd : decode cc pc = .ok (.istore 11, 2)) (hn : pv_n2 (a0 :: a1 :: a2 :: a3 :: a4 :: a5 :: a6 :: a7 :: a8 :: a9 :: a10 :: a11 :: t) 11 = true) (hnL : 11 < nL) (k : pv_V l D ty base b cc nL own ret nm R Ex Qf cells slots (pc + 2) (a0 :: a1 :: a2 :: a3 :: a4 :: a5 :: a6 :: a7 :: a8 :: a9 :: a10 :: some (.int x) :: t) st M) : pv_V l D ty base b cc nL own ret nm R Ex Qf cells slots pc (a0 :: a1 :: a2 :: a3 :: a4 :: a5 :: a6 :: a7 :: a8 :: a9 :: a10 :: a11 :: t) (.int x :: st) M := pv_istore (i := 11) hd hn (by simp) hnL k
theorem pv_ast11 {x : Nat} {a0 a1 a2 a3 a4 a5 a6 a7 a8 a9 a10 a11 : Option Value} {t : List (Option Value)} (hd : decode cc pc = .ok (.astore 11, 2)) (hn : pv_n2 (a0 :: a1 :: a2 :: a3 :: a4 :: a5 :: a6 :: a7 :: a8 :: a9 :: a10 :: a11 :: t) 11 = true) (hnL : 11 < nL) (k : pv_V l D ty base b cc nL own ret nm R Ex Qf cells slots (pc + 2) (a0 :: a1 :: a2 :: a3 :: a4 :: a5 :: a6 :: a7 :: a8 :: a9 :: a10 :: some (.ref x) :: t) st M) : pv_V l D ty base b cc nL own ret nm R Ex Qf cells slots pc (a0 :: a1 :: a2 :: a3 :: a4 :: a5 :: a6 :: a7 :: a8 :: a9 :: a10 :: a11 :: t) (.ref x :: st) M := pv_astore (i := 11) hd hn (by simp) hnL k
theorem pv_a0st11  {a0 a1 a2 a3 a4 a5 a6 a7 a8 a9 a10 a11 : Option Value} {t : List (Option Value)} (hd : decode cc pc = .ok (.astore 11, 2)) (hn : pv_n2 (a0 :: a1 :: a2 :: a3 :: a4 :: a5 :: a6 :: a7 :: a8 :: a9 :: a10 :: a11 :: t) 11 = true) (hnL : 11 < nL) (k : pv_V l D ty base b cc nL own ret nm R Ex Qf cells slots (pc + 2) (a0 :: a1 :: a2 :: a3 :: a4 :: a5 :: a6 :: a7 :: a8 :: a9 :: a10 :: some (.null) :: t) st M) : pv_V l D ty base b cc nL own ret nm R Ex Qf cells slots pc (a0 :: a1 :: a2 :: a3 :: a4 :: a5 :: a6 :: a7 :: a8 :: a9 :: a10 :: a11 :: t) (.null :: st) M := pv_a0store (i := 11) hd hn (by simp) hnL k
theorem pv_inc11 {x : Nat} {a0 a1 a2 a3 a4 a5 a6 a7 a8 a9 a10 : Option Value} {t : List (Option Value)} (hd : decode cc pc = .ok (.iinc 11 1, 3)) (hn : pv_n2 (a0 :: a1 :: a2 :: a3 :: a4 :: a5 :: a6 :: a7 :: a8 :: a9 :: a10 :: some (.int (nI x)) :: t) 11 = true) (hnL : 11 < nL) (k : pv_V l D ty base b cc nL own ret nm R Ex Qf cells slots (pc + 3) (a0 :: a1 :: a2 :: a3 :: a4 :: a5 :: a6 :: a7 :: a8 :: a9 :: a10 :: some (.int (nI (x + 1))) :: t) st M) : pv_V l D ty base b cc nL own ret nm R Ex Qf cells slots pc (a0 :: a1 :: a2 :: a3 :: a4 :: a5 :: a6 :: a7 :: a8 :: a9 :: a10 :: some (.int (nI x)) :: t) st M := pv_iinc hd (nI (x + 1)) rfl (nI_succ x).symm hn (by simp) hnL k
theorem pv_ist12 {x : Int32} {a0 a1 a2 a3 a4 a5 a6 a7 a8 a9 a10 a11 a12 : Option Value} {t : List (Option Value)} (hd : decode cc pc = .ok (.istore 12, 2)) (hn : pv_n2 (a0 :: a1 :: a2 :: a3 :: a4 :: a5 :: a6 :: a7 :: a8 :: a9 :: a10 :: a11 :: a12 :: t) 12 = true) (hnL : 12 < nL) (k : pv_V l D ty base b cc nL own ret nm R Ex Qf cells slots (pc + 2) (a0 :: a1 :: a2 :: a3 :: a4 :: a5 :: a6 :: a7 :: a8 :: a9 :: a10 :: a11 :: some (.int x) :: t) st M) : pv_V l D ty base b cc nL own ret nm R Ex Qf cells slots pc (a0 :: a1 :: a2 :: a3 :: a4 :: a5 :: a6 :: a7 :: a8 :: a9 :: a10 :: a11 :: a12 :: t) (.int x :: st) M := pv_istore (i := 12) hd hn (by simp) hnL k
theorem pv_ast12 {x : Nat} {a0 a1 a2 a3 a4 a5 a6 a7 a8 a9 a10 a11 a12 : Option Value} {t : List (Option Value)} (hd : decode cc pc = .ok (.astore 12, 2)) (hn : pv_n2 (a0 :: a1 :: a2 :: a3 :: a4 :: a5 :: a6 :: a7 :: a8 :: a9 :: a10 :: a11 :: a12 :: t) 12 = true) (hnL : 12 < nL) (k : pv_V l D ty base b cc nL own ret nm R Ex Qf cells slots (pc + 2) (a0 :: a1 :: a2 :: a3 :: a4 :: a5 :: a6 :: a7 :: a8 :: a9 :: a10 :: a11 :: some (.ref x) :: t) st M) : pv_V l D ty base b cc nL own ret nm R Ex Qf cells slots pc (a0 :: a1 :: a2 :: a3 :: a4 :: a5 :: a6 :: a7 :: a8 :: a9 :: a10 :: a11 :: a12 :: t) (.ref x :: st) M := pv_astore (i := 12) hd hn (by simp) hnL k
theorem pv_a0st12  {a0 a1 a2 a3 a4 a5 a6 a7 a8 a9 a10 a11 a12 : Option Value} {t : List (Option Value)} (hd : decode cc pc = .ok (.astore 12, 2)) (hn : pv_n2 (a0 :: a1 :: a2 :: a3 :: a4 :: a5 :: a6 :: a7 :: a8 :: a9 :: a10 :: a11 :: a12 :: t) 12 = true) (hnL : 12 < nL) (k : pv_V l D ty base b cc nL own ret nm R Ex Qf cells slots (pc + 2) (a0 :: a1 :: a2 :: a3 :: a4 :: a5 :: a6 :: a7 :: a8 :: a9 :: a10 :: a11 :: some (.null) :: t) st M) : pv_V l D ty base b cc nL own ret nm R Ex Qf cells slots pc (a0 :: a1 :: a2 :: a3 :: a4 :: a5 :: a6 :: a7 :: a8 :: a9 :: a10 :: a11 :: a12 :: t) (.null :: st) M := pv_a0store (i := 12) hd hn (by simp) hnL k
theorem pv_inc12 {x : Nat} {a0 a1 a2 a3 a4 a5 a6 a7 a8 a9 a10 a11 : Option Value} {t : List (Option Value)} (hd : decode cc pc = .ok (.iinc 12 1, 3)) (hn : pv_n2 (a0 :: a1 :: a2 :: a3 :: a4 :: a5 :: a6 :: a7 :: a8 :: a9 :: a10 :: a11 :: some (.int (nI x)) :: t) 12 = true) (hnL : 12 < nL) (k : pv_V l D ty base b cc nL own ret nm R Ex Qf cells slots (pc + 3) (a0 :: a1 :: a2 :: a3 :: a4 :: a5 :: a6 :: a7 :: a8 :: a9 :: a10 :: a11 :: some (.int (nI (x + 1))) :: t) st M) : pv_V l D ty base b cc nL own ret nm R Ex Qf cells slots pc (a0 :: a1 :: a2 :: a3 :: a4 :: a5 :: a6 :: a7 :: a8 :: a9 :: a10 :: a11 :: some (.int (nI x)) :: t) st M := pv_iinc hd (nI (x + 1)) rfl (nI_succ x).symm hn (by simp) hnL k
theorem pv_ist13 {x : Int32} {a0 a1 a2 a3 a4 a5 a6 a7 a8 a9 a10 a11 a12 a13 : Option Value} {t : List (Option Value)} (hd : decode cc pc = .ok (.istore 13, 2)) (hn : pv_n2 (a0 :: a1 :: a2 :: a3 :: a4 :: a5 :: a6 :: a7 :: a8 :: a9 :: a10 :: a11 :: a12 :: a13 :: t) 13 = true) (hnL : 13 < nL) (k : pv_V l D ty base b cc nL own ret nm R Ex Qf cells slots (pc + 2) (a0 :: a1 :: a2 :: a3 :: a4 :: a5 :: a6 :: a7 :: a8 :: a9 :: a10 :: a11 :: a12 :: some (.int x) :: t) st M) : pv_V l D ty base b cc nL own ret nm R Ex Qf cells slots pc (a0 :: a1 :: a2 :: a3 :: a4 :: a5 :: a6 :: a7 :: a8 :: a9 :: a10 :: a11 :: a12 :: a13 :: t) (.int x :: st) M := pv_istore (i := 13) hd hn (by simp) hnL k
theorem pv_ast13 {x : Nat} {a0 a1 a2 a3 a4 a5 a6 a7 a8 a9 a10 a11 a12 a13 : Option Value} {t : List (Option Value)} (hd : decode cc pc = .ok (.astore 13, 2)) (hn : pv_n2 (a0 :: a1 :: a2 :: a3 :: a4 :: a5 :: a6 :: a7 :: a8 :: a9 :: a10 :: a11 :: a12 :: a13 :: t) 13 = true) (hnL : 13 < nL) (k : pv_V l D ty base b cc nL own ret nm R Ex Qf cells slots (pc + 2) (a0 :: a1 :: a2 :: a3 :: a4 :: a5 :: a6 :: a7 :: a8 :: a9 :: a10 :: a11 :: a12 :: some (.ref x) :: t) st M) : pv_V l D ty base b cc nL own ret nm R Ex Qf cells slots pc (a0 :: a1 :: a2 :: a3 :: a4 :: a5 :: a6 :: a7 :: a8 :: a9 :: a10 :: a11 :: a12 :: a13 :: t) (.ref x :: st) M := pv_astore (i := 13) hd hn (by simp) hnL k
theorem pv_a0st13  {a0 a1 a2 a3 a4 a5 a6 a7 a8 a9 a10 a11 a12 a13 : Option Value} {t : List (Option Value)} (hd : decode cc pc = .ok (.astore 13, 2)) (hn : pv_n2 (a0 :: a1 :: a2 :: a3 :: a4 :: a5 :: a6 :: a7 :: a8 :: a9 :: a10 :: a11 :: a12 :: a13 :: t) 13 = true) (hnL : 13 < nL) (k : pv_V l D ty base b cc nL own ret nm R Ex Qf cells slots (pc + 2) (a0 :: a1 :: a2 :: a3 :: a4 :: a5 :: a6 :: a7 :: a8 :: a9 :: a10 :: a11 :: a12 :: some (.null) :: t) st M) : pv_V l D ty base b cc nL own ret nm R Ex Qf cells slots pc (a0 :: a1 :: a2 :: a3 :: a4 :: a5 :: a6 :: a7 :: a8 :: a9 :: a10 :: a11 :: a12 :: a13 :: t) (.null :: st) M := pv_a0store (i := 13) hd hn (by simp) hnL k
theorem pv_inc13 {x : Nat} {a0 a1 a2 a3 a4 a5 a6 a7 a8 a9 a10 a11 a12 : Option Value} {t : List (Option Value)} (hd : decode cc pc = .ok (.iinc 13 1, 3)) (hn : pv_n2 (a0 :: a1 :: a2 :: a3 :: a4 :: a5 :: a6 :: a7 :: a8 :: a9 :: a10 :: a11 :: a12 :: some (.int (nI x)) :: t) 13 = true) (hnL : 13 < nL) (k : pv_V l D ty base b cc nL own ret nm R Ex Qf cells slots (pc + 3) (a0 :: a1 :: a2 :: a3 :: a4 :: a5 :: a6 :: a7 :: a8 :: a9 :: a10 :: a11 :: a12 :: some (.int (nI (x + 1))) :: t) st M) : pv_V l D ty base b cc nL own ret nm R Ex Qf cells slots pc (a0 :: a1 :: a2 :: a3 :: a4 :: a5 :: a6 :: a7 :: a8 :: a9 :: a10 :: a11 :: a12 :: some (.int (nI x)) :: t) st M := pv_iinc hd (nI (x + 1)) rfl (nI_succ x).symm hn (by simp) hnL k
theorem pv_ist14 {x : Int32} {a0 a1 a2 a3 a4 a5 a6 a7 a8 a9 a10 a11 a12 a13 a14 : Option Value} {t : List (Option Value)} (hd : decode cc pc = .ok (.istore 14, 2)) (hn : pv_n2 (a0 :: a1 :: a2 :: a3 :: a4 :: a5 :: a6 :: a7 :: a8 :: a9 :: a10 :: a11 :: a12 :: a13 :: a14 :: t) 14 = true) (hnL : 14 < nL) (k : pv_V l D ty base b cc nL own ret nm R Ex Qf cells slots (pc + 2) (a0 :: a1 :: a2 :: a3 :: a4 :: a5 :: a6 :: a7 :: a8 :: a9 :: a10 :: a11 :: a12 :: a13 :: some (.int x) :: t) st M) : pv_V l D ty base b cc nL own ret nm R Ex Qf cells slots pc (a0 :: a1 :: a2 :: a3 :: a4 :: a5 :: a6 :: a7 :: a8 :: a9 :: a10 :: a11 :: a12 :: a13 :: a14 :: t) (.int x :: st) M := pv_istore (i := 14) hd hn (by simp) hnL k
theorem pv_ast14 {x : Nat} {a0 a1 a2 a3 a4 a5 a6 a7 a8 a9 a10 a11 a12 a13 a14 : Option Value} {t : List (Option Value)} (hd : decode cc pc = .ok (.astore 14, 2)) (hn : pv_n2 (a0 :: a1 :: a2 :: a3 :: a4 :: a5 :: a6 :: a7 :: a8 :: a9 :: a10 :: a11 :: a12 :: a13 :: a14 :: t) 14 = true) (hnL : 14 < nL) (k : pv_V l D ty base b cc nL own ret nm R Ex Qf cells slots (pc + 2) (a0 :: a1 :: a2 :: a3 :: a4 :: a5 :: a6 :: a7 :: a8 :: a9 :: a10 :: a11 :: a12 :: a13 :: some (.ref x) :: t) st M) : pv_V l D ty base b cc nL own ret nm R Ex Qf cells slots pc (a0 :: a1 :: a2 :: a3 :: a4 :: a5 :: a6 :: a7 :: a8 :: a9 :: a10 :: a11 :: a12 :: a13 :: a14 :: t) (.ref x :: st) M := pv_astore (i := 14) hd hn (by simp) hnL k
theorem pv_a0st14  {a0 a1 a2 a3 a4 a5 a6 a7 a8 a9 a10 a11 a12 a13 a14 : Option Value} {t : List (Option Value)} (hd : decode cc pc = .ok (.astore 14, 2)) (hn : pv_n2 (a0 :: a1 :: a2 :: a3 :: a4 :: a5 :: a6 :: a7 :: a8 :: a9 :: a10 :: a11 :: a12 :: a13 :: a14 :: t) 14 = true) (hnL : 14 < nL) (k : pv_V l D ty base b cc nL own ret nm R Ex Qf cells slots (pc + 2) (a0 :: a1 :: a2 :: a3 :: a4 :: a5 :: a6 :: a7 :: a8 :: a9 :: a10 :: a11 :: a12 :: a13 :: some (.null) :: t) st M) : pv_V l D ty base b cc nL own ret nm R Ex Qf cells slots pc (a0 :: a1 :: a2 :: a3 :: a4 :: a5 :: a6 :: a7 :: a8 :: a9 :: a10 :: a11 :: a12 :: a13 :: a14 :: t) (.null :: st) M := pv_a0store (i := 14) hd hn (by simp) hnL k
theorem pv_inc14 {x : Nat} {a0 a1 a2 a3 a4 a5 a6 a7 a8 a9 a10 a11 a12 a13 : Option Value} {t : List (Option Value)} (hd : decode cc pc = .ok (.iinc 14 1, 3)) (hn : pv_n2 (a0 :: a1 :: a2 :: a3 :: a4 :: a5 :: a6 :: a7 :: a8 :: a9 :: a10 :: a11 :: a12 :: a13 :: some (.int (nI x)) :: t) 14 = true) (hnL : 14 < nL) (k : pv_V l D ty base b cc nL own ret nm R Ex Qf cells slots (pc + 3) (a0 :: a1 :: a2 :: a3 :: a4 :: a5 :: a6 :: a7 :: a8 :: a9 :: a10 :: a11 :: a12 :: a13 :: some (.int (nI (x + 1))) :: t) st M) : pv_V l D ty base b cc nL own ret nm R Ex Qf cells slots pc (a0 :: a1 :: a2 :: a3 :: a4 :: a5 :: a6 :: a7 :: a8 :: a9 :: a10 :: a11 :: a12 :: a13 :: some (.int (nI x)) :: t) st M := pv_iinc hd (nI (x + 1)) rfl (nI_succ x).symm hn (by simp) hnL k
theorem pv_iadd {x y : Int32} (hd : decode cc pc = .ok (.iadd, 1)) (k : pv_V l D ty base b cc nL own ret nm R Ex Qf cells slots (pc + 1) L (.int (x + y) :: st) M) : pv_V l D ty base b cc nL own ret nm R Ex Qf cells slots pc L (.int y :: .int x :: st) M :=
  fun p e s m args below meth c C H locs ls hl hP hS => lv_iadd C.1.1 C.1.2.1 hd (k p e s m args below meth c C H locs ls hl hP hS)
theorem pv_isub {x y : Int32} (hd : decode cc pc = .ok (.isub, 1)) (k : pv_V l D ty base b cc nL own ret nm R Ex Qf cells slots (pc + 1) L (.int (x - y) :: st) M) : pv_V l D ty base b cc nL own ret nm R Ex Qf cells slots pc L (.int y :: .int x :: st) M :=
  fun p e s m args below meth c C H locs ls hl hP hS => lv_isub C.1.1 C.1.2.1 hd (k p e s m args below meth c C H locs ls hl hP hS)
theorem pv_imul {x y : Int32} (hd : decode cc pc = .ok (.imul, 1)) (k : pv_V l D ty base b cc nL own ret nm R Ex Qf cells slots (pc + 1) L (.int (x * y) :: st) M) : pv_V l D ty base b cc nL own ret nm R Ex Qf cells slots pc L (.int y :: .int x :: st) M :=
  fun p e s m args below meth c C H locs ls hl hP hS => lv_imul C.1.1 C.1.2.1 hd (k p e s m args below meth c C H locs ls hl hP hS)
theorem pv_iand {x y : Int32} (hd : decode cc pc = .ok (.iand, 1)) (k : pv_V l D ty base b cc nL own ret nm R Ex Qf cells slots (pc + 1) L (.int (x &&& y) :: st) M) : pv_V l D ty base b cc nL own ret nm R Ex Qf cells slots pc L (.int y :: .int x :: st) M :=
  fun p e s m args below meth c C H locs ls hl hP hS => lv_iand C.1.1 C.1.2.1 hd (k p e s m args below meth c C H locs ls hl hP hS)
theorem pv_ior {x y : Int32} (hd : decode cc pc = .ok (.ior, 1)) (k : pv_V l D ty base b cc nL own ret nm R Ex Qf cells slots (pc + 1) L (.int (x ||| y) :: st) M) : pv_V l D ty base b cc nL own ret nm R Ex Qf cells slots pc L (.int y :: .int x :: st) M :=
  fun p e s m args below meth c C H locs ls hl hP hS => lv_ior C.1.1 C.1.2.1 hd (k p e s m args below meth c C H locs ls hl hP hS)
theorem pv_ixor {x y : Int32} (hd : decode cc pc = .ok (.ixor, 1)) (k : pv_V l D ty base b cc nL own ret nm R Ex Qf cells slots (pc + 1) L (.int (x ^^^ y) :: st) M) : pv_V l D ty base b cc nL own ret nm R Ex Qf cells slots pc L (.int y :: .int x :: st) M :=
  fun p e s m args below meth c C H locs ls hl hP hS => lv_ixor C.1.1 C.1.2.1 hd (k p e s m args below meth c C H locs ls hl hP hS)
theorem pv_irem {x y : Int32} (hd : decode cc pc = .ok (.irem, 1)) (hy : ¬ y = 0) (k : pv_V l D ty base b cc nL own ret nm R Ex Qf cells slots (pc + 1) L (.int (x - x / y * y) :: st) M) : pv_V l D ty base b cc nL own ret nm R Ex Qf cells slots pc L (.int y :: .int x :: st) M :=
  fun p e s m args below meth c C H locs ls hl hP hS => lv_irem C.1.1 C.1.2.1 hd hy (k p e s m args below meth c C H locs ls hl hP hS)
theorem pv_ladd {x y : Int64} (hd : decode cc pc = .ok (.ladd, 1)) (k : pv_V l D ty base b cc nL own ret nm R Ex Qf cells slots (pc + 1) L (.long (x + y) :: st) M) : pv_V l D ty base b cc nL own ret nm R Ex Qf cells slots pc L (.long y :: .long x :: st) M :=
  fun p e s m args below meth c C H locs ls hl hP hS => lv_ladd C.1.1 C.1.2.1 hd (k p e s m args below meth c C H locs ls hl hP hS)
theorem pv_lsub {x y : Int64} (hd : decode cc pc = .ok (.lsub, 1)) (k : pv_V l D ty base b cc nL own ret nm R Ex Qf cells slots (pc + 1) L (.long (x - y) :: st) M) : pv_V l D ty base b cc nL own ret nm R Ex Qf cells slots pc L (.long y :: .long x :: st) M :=
  fun p e s m args below meth c C H locs ls hl hP hS => lv_lsub C.1.1 C.1.2.1 hd (k p e s m args below meth c C H locs ls hl hP hS)
theorem pv_land {x y : Int64} (hd : decode cc pc = .ok (.land, 1)) (k : pv_V l D ty base b cc nL own ret nm R Ex Qf cells slots (pc + 1) L (.long (x &&& y) :: st) M) : pv_V l D ty base b cc nL own ret nm R Ex Qf cells slots pc L (.long y :: .long x :: st) M :=
  fun p e s m args below meth c C H locs ls hl hP hS => lv_land C.1.1 C.1.2.1 hd (k p e s m args below meth c C H locs ls hl hP hS)
theorem pv_lor {x y : Int64} (hd : decode cc pc = .ok (.lor, 1)) (k : pv_V l D ty base b cc nL own ret nm R Ex Qf cells slots (pc + 1) L (.long (x ||| y) :: st) M) : pv_V l D ty base b cc nL own ret nm R Ex Qf cells slots pc L (.long y :: .long x :: st) M :=
  fun p e s m args below meth c C H locs ls hl hP hS => lv_lor C.1.1 C.1.2.1 hd (k p e s m args below meth c C H locs ls hl hP hS)
theorem pv_lxor {x y : Int64} (hd : decode cc pc = .ok (.lxor, 1)) (k : pv_V l D ty base b cc nL own ret nm R Ex Qf cells slots (pc + 1) L (.long (x ^^^ y) :: st) M) : pv_V l D ty base b cc nL own ret nm R Ex Qf cells slots pc L (.long y :: .long x :: st) M :=
  fun p e s m args below meth c C H locs ls hl hP hS => lv_lxor C.1.1 C.1.2.1 hd (k p e s m args below meth c C H locs ls hl hP hS)
theorem pv_ishl {x y : Int32} (hd : decode cc pc = .ok (.ishl, 1)) (k : pv_V l D ty base b cc nL own ret nm R Ex Qf cells slots (pc + 1) L (.int (x <<< (y &&& 31)) :: st) M) : pv_V l D ty base b cc nL own ret nm R Ex Qf cells slots pc L (.int y :: .int x :: st) M :=
  fun p e s m args below meth c C H locs ls hl hP hS => lv_ishl C.1.1 C.1.2.1 hd (k p e s m args below meth c C H locs ls hl hP hS)
theorem pv_ishr {x y : Int32} (hd : decode cc pc = .ok (.ishr, 1)) (k : pv_V l D ty base b cc nL own ret nm R Ex Qf cells slots (pc + 1) L (.int (x >>> (y &&& 31)) :: st) M) : pv_V l D ty base b cc nL own ret nm R Ex Qf cells slots pc L (.int y :: .int x :: st) M :=
  fun p e s m args below meth c C H locs ls hl hP hS => lv_ishr C.1.1 C.1.2.1 hd (k p e s m args below meth c C H locs ls hl hP hS)
theorem pv_lshl {x : Int64} {y : Int32} (hd : decode cc pc = .ok (.lshl, 1)) (k : pv_V l D ty base b cc nL own ret nm R Ex Qf cells slots (pc + 1) L (.long (x <<< (y.toInt64 &&& 63)) :: st) M) : pv_V l D ty base b cc nL own ret nm R Ex Qf cells slots pc L (.int y :: .long x :: st) M :=
  fun p e s m args below meth c C H locs ls hl hP hS => lv_lshl C.1.1 C.1.2.1 hd rfl (k p e s m args below meth c C H locs ls hl hP hS)
theorem pv_lshr {x : Int64} {y : Int32} (hd : decode cc pc = .ok (.lshr, 1)) (k : pv_V l D ty base b cc nL own ret nm R Ex Qf cells slots (pc + 1) L (.long (x >>> (y.toInt64 &&& 63)) :: st) M) : pv_V l D ty base b cc nL own ret nm R Ex Qf cells slots pc L (.int y :: .long x :: st) M :=
  fun p e s m args below meth c C H locs ls hl hP hS => lv_lshr C.1.1 C.1.2.1 hd rfl (k p e s m args below meth c C H locs ls hl hP hS)
theorem pv_lushr {x : Int64} {y : Int32} (hd : decode cc pc = .ok (.lushr, 1)) (k : pv_V l D ty base b cc nL own ret nm R Ex Qf cells slots (pc + 1) L (.long ((x.toUInt64 >>> (y.toInt64.toUInt64 &&& Int64.toUInt64 63)).toInt64) :: st) M) : pv_V l D ty base b cc nL own ret nm R Ex Qf cells slots pc L (.int y :: .long x :: st) M :=
  fun p e s m args below meth c C H locs ls hl hP hS => lv_lushr C.1.1 C.1.2.1 hd rfl (k p e s m args below meth c C H locs ls hl hP hS)
theorem pv_l2i {x : Int64} (hd : decode cc pc = .ok (.l2i, 1)) (k : pv_V l D ty base b cc nL own ret nm R Ex Qf cells slots (pc + 1) L (.int x.toInt32 :: st) M) : pv_V l D ty base b cc nL own ret nm R Ex Qf cells slots pc L (.long x :: st) M :=
  fun p e s m args below meth c C H locs ls hl hP hS => lv_l2i C.1.1 C.1.2.1 hd rfl (k p e s m args below meth c C H locs ls hl hP hS)
theorem pv_lcmp {x y : Int64} (hd : decode cc pc = .ok (.lcmp, 1)) (k : pv_V l D ty base b cc nL own ret nm R Ex Qf cells slots (pc + 1) L (.int (lg_cmp x y) :: st) M) : pv_V l D ty base b cc nL own ret nm R Ex Qf cells slots pc L (.long y :: .long x :: st) M :=
  fun p e s m args below meth c C H locs ls hl hP hS => W.lcmp C.1.1 C.1.2.1 hd (k p e s m args below meth c C H locs ls hl hP hS)
theorem pv_dup {v : Value} (hd : decode cc pc = .ok (.dup, 1)) (hv : v.category = 1) (k : pv_V l D ty base b cc nL own ret nm R Ex Qf cells slots (pc + 1) L (v :: v :: st) M) : pv_V l D ty base b cc nL own ret nm R Ex Qf cells slots pc L (v :: st) M :=
  fun p e s m args below meth c C H locs ls hl hP hS => lv_dup C.1.1 C.1.2.1 hd ((pv_cat _ v).trans hv) (k p e s m args below meth c C H locs ls hl hP hS)
theorem pv_pop {v : Value} (hd : decode cc pc = .ok (.pop, 1)) (hv : v.category = 1) (k : pv_V l D ty base b cc nL own ret nm R Ex Qf cells slots (pc + 1) L (st) M) : pv_V l D ty base b cc nL own ret nm R Ex Qf cells slots pc L (v :: st) M :=
  fun p e s m args below meth c C H locs ls hl hP hS => lv_pop C.1.1 C.1.2.1 hd ((pv_cat _ v).trans hv) (k p e s m args below meth c C H locs ls hl hP hS)
theorem pv_dup2 {v u : Value} (hd : decode cc pc = .ok (.dup2, 1)) (hv : v.category = 1) (hu : u.category = 1) (k : pv_V l D ty base b cc nL own ret nm R Ex Qf cells slots (pc + 1) L (v :: u :: v :: u :: st) M) : pv_V l D ty base b cc nL own ret nm R Ex Qf cells slots pc L (v :: u :: st) M :=
  fun p e s m args below meth c C H locs ls hl hP hS => lv_dup2_11 C.1.1 C.1.2.1 hd ((pv_cat _ v).trans hv) ((pv_cat _ u).trans hu) (k p e s m args below meth c C H locs ls hl hP hS)
theorem pv_if_eq {x : Int32} {off : Int} (tgt : Nat) (ht : (pc : Int) + off = (tgt : Int)) (hd : decode cc pc = .ok (.ifCond .eq off, 3)) (k1 : (x = 0) → pv_V l D ty base b cc nL own ret nm R Ex Qf cells slots tgt L st M) (k2 : (¬ x = 0) → pv_V l D ty base b cc nL own ret nm R Ex Qf cells slots (pc + 3) L st M) : pv_V l D ty base b cc nL own ret nm R Ex Qf cells slots pc L (.int x :: st) M :=
  fun p e s m args below meth c C H locs ls hl hP hS => lv_if_eq C.1.1 C.1.2.1 hd ht (fun h => k1 h p e s m args below meth c C H locs ls hl hP hS) (fun h => k2 h p e s m args below meth c C H locs ls hl hP hS)
theorem pv_icmp_eq {x y : Int32} {off : Int} (tgt : Nat) (ht : (pc : Int) + off = (tgt : Int)) (hd : decode cc pc = .ok (.if_icmp .eq off, 3)) (k1 : (x = y) → pv_V l D ty base b cc nL own ret nm R Ex Qf cells slots tgt L st M) (k2 : (¬ x = y) → pv_V l D ty base b cc nL own ret nm R Ex Qf cells slots (pc + 3) L st M) : pv_V l D ty base b cc nL own ret nm R Ex Qf cells slots pc L (.int y :: .int x :: st) M :=
  fun p e s m args below meth c C H locs ls hl hP hS => lv_icmp_eq C.1.1 C.1.2.1 hd ht (fun h => k1 h p e s m args below meth c C H locs ls hl hP hS) (fun h => k2 h p e s m args below meth c C H locs ls hl hP hS)
theorem pv_if_ne {x : Int32} {off : Int} (tgt : Nat) (ht : (pc : Int) + off = (tgt : Int)) (hd : decode cc pc = .ok (.ifCond .ne off, 3)) (k1 : (¬ x = 0) → pv_V l D ty base b cc nL own ret nm R Ex Qf cells slots tgt L st M) (k2 : (x = 0) → pv_V l D ty base b cc nL own ret nm R Ex Qf cells slots (pc + 3) L st M) : pv_V l D ty base b cc nL own ret nm R Ex Qf cells slots pc L (.int x :: st) M :=
  fun p e s m args below meth c C H locs ls hl hP hS => lv_if_ne C.1.1 C.1.2.1 hd ht (fun h => k1 h p e s m args below meth c C H locs ls hl hP hS) (fun h => k2 h p e s m args below meth c C H locs ls hl hP hS)
theorem pv_icmp_ne {x y : Int32} {off : Int} (tgt : Nat) (ht : (pc : Int) + off = (tgt : Int)) (hd : decode cc pc = .ok (.if_icmp .ne off, 3)) (k1 : (¬ x = y) → pv_V l D ty base b cc nL own ret nm R Ex Qf cells slots tgt L st M) (k2 : (x = y) → pv_V l D ty base b cc nL own ret nm R Ex Qf cells slots (pc + 3) L st M) : pv_V l D ty base b cc nL own ret nm R Ex Qf cells slots pc L (.int y :: .int x :: st) M :=
  fun p e s m args below meth c C H locs ls hl hP hS => lv_icmp_ne C.1.1 C.1.2.1 hd ht (fun h => k1 h p e s m args below meth c C H locs ls hl hP hS) (fun h => k2 h p e s m args below meth c C H locs ls hl hP hS)
theorem pv_if_lt {x : Int32} {off : Int} (tgt : Nat) (ht : (pc : Int) + off = (tgt : Int)) (hd : decode cc pc = .ok (.ifCond .lt off, 3)) (k1 : (x < 0) → pv_V l D ty base b cc nL own ret nm R Ex Qf cells slots tgt L st M) (k2 : (¬ x < 0) → pv_V l D ty base b cc nL own ret nm R Ex Qf cells slots (pc + 3) L st M) : pv_V l D ty base b cc nL own ret nm R Ex Qf cells slots pc L (.int x :: st) M :=
  fun p e s m args below meth c C H locs ls hl hP hS => lv_if_lt C.1.1 C.1.2.1 hd ht (fun h => k1 h p e s m args below meth c C H locs ls hl hP hS) (fun h => k2 h p e s m args below meth c C H locs ls hl hP hS)
theorem pv_icmp_lt {x y : Int32} {off : Int} (tgt : Nat) (ht : (pc : Int) + off = (tgt : Int)) (hd : decode cc pc = .ok (.if_icmp .lt off, 3)) (k1 : (x < y) → pv_V l D ty base b cc nL own ret nm R Ex Qf cells slots tgt L st M) (k2 : (¬ x < y) → pv_V l D ty base b cc nL own ret nm R Ex Qf cells slots (pc + 3) L st M) : pv_V l D ty base b cc nL own ret nm R Ex Qf cells slots pc L (.int y :: .int x :: st) M :=
  fun p e s m args below meth c C H locs ls hl hP hS => lv_icmp_lt C.1.1 C.1.2.1 hd ht (fun h => k1 h p e s m args below meth c C H locs ls hl hP hS) (fun h => k2 h p e s m args below meth c C H locs ls hl hP hS)
theorem pv_if_ge {x : Int32} {off : Int} (tgt : Nat) (ht : (pc : Int) + off = (tgt : Int)) (hd : decode cc pc = .ok (.ifCond .ge off, 3)) (k1 : (0 ≤ x) → pv_V l D ty base b cc nL own ret nm R Ex Qf cells slots tgt L st M) (k2 : (¬ 0 ≤ x) → pv_V l D ty base b cc nL own ret nm R Ex Qf cells slots (pc + 3) L st M) : pv_V l D ty base b cc nL own ret nm R Ex Qf cells slots pc L (.int x :: st) M :=
  fun p e s m args below meth c C H locs ls hl hP hS => lv_if_ge C.1.1 C.1.2.1 hd ht (fun h => k1 h p e s m args below meth c C H locs ls hl hP hS) (fun h => k2 h p e s m args below meth c C H locs ls hl hP hS)
theorem pv_icmp_ge {x y : Int32} {off : Int} (tgt : Nat) (ht : (pc : Int) + off = (tgt : Int)) (hd : decode cc pc = .ok (.if_icmp .ge off, 3)) (k1 : (y ≤ x) → pv_V l D ty base b cc nL own ret nm R Ex Qf cells slots tgt L st M) (k2 : (¬ y ≤ x) → pv_V l D ty base b cc nL own ret nm R Ex Qf cells slots (pc + 3) L st M) : pv_V l D ty base b cc nL own ret nm R Ex Qf cells slots pc L (.int y :: .int x :: st) M :=
  fun p e s m args below meth c C H locs ls hl hP hS => lv_icmp_ge C.1.1 C.1.2.1 hd ht (fun h => k1 h p e s m args below meth c C H locs ls hl hP hS) (fun h => k2 h p e s m args below meth c C H locs ls hl hP hS)
theorem pv_if_gt {x : Int32} {off : Int} (tgt : Nat) (ht : (pc : Int) + off = (tgt : Int)) (hd : decode cc pc = .ok (.ifCond .gt off, 3)) (k1 : (0 < x) → pv_V l D ty base b cc nL own ret nm R Ex Qf cells slots tgt L st M) (k2 : (¬ 0 < x) → pv_V l D ty base b cc nL own ret nm R Ex Qf cells slots (pc + 3) L st M) : pv_V l D ty base b cc nL own ret nm R Ex Qf cells slots pc L (.int x :: st) M :=
  fun p e s m args below meth c C H locs ls hl hP hS => lv_if_gt C.1.1 C.1.2.1 hd ht (fun h => k1 h p e s m args below meth c C H locs ls hl hP hS) (fun h => k2 h p e s m args below meth c C H locs ls hl hP hS)
theorem pv_icmp_gt {x y : Int32} {off : Int} (tgt : Nat) (ht : (pc : Int) + off = (tgt : Int)) (hd : decode cc pc = .ok (.if_icmp .gt off, 3)) (k1 : (y < x) → pv_V l D ty base b cc nL own ret nm R Ex Qf cells slots tgt L st M) (k2 : (¬ y < x) → pv_V l D ty base b cc nL own ret nm R Ex Qf cells slots (pc + 3) L st M) : pv_V l D ty base b cc nL own ret nm R Ex Qf cells slots pc L (.int y :: .int x :: st) M :=
  fun p e s m args below meth c C H locs ls hl hP hS => lv_icmp_gt C.1.1 C.1.2.1 hd ht (fun h => k1 h p e s m args below meth c C H locs ls hl hP hS) (fun h => k2 h p e s m args below meth c C H locs ls hl hP hS)
theorem pv_if_le {x : Int32} {off : Int} (tgt : Nat) (ht : (pc : Int) + off = (tgt : Int)) (hd : decode cc pc = .ok (.ifCond .le off, 3)) (k1 : (x ≤ 0) → pv_V l D ty base b cc nL own ret nm R Ex Qf cells slots tgt L st M) (k2 : (¬ x ≤ 0) → pv_V l D ty base b cc nL own ret nm R Ex Qf cells slots (pc + 3) L st M) : pv_V l D ty base b cc nL own ret nm R Ex Qf cells slots pc L (.int x :: st) M :=
  fun p e s m args below meth c C H locs ls hl hP hS => lv_if_le C.1.1 C.1.2.1 hd ht (fun h => k1 h p e s m args below meth c C H locs ls hl hP hS) (fun h => k2 h p e s m args below meth c C H locs ls hl hP hS)
theorem pv_icmp_le {x y : Int32} {off : Int} (tgt : Nat) (ht : (pc : Int) + off = (tgt : Int)) (hd : decode cc pc = .ok (.if_icmp .le off, 3)) (k1 : (x ≤ y) → pv_V l D ty base b cc nL own ret nm R Ex Qf cells slots tgt L st M) (k2 : (¬ x ≤ y) → pv_V l D ty base b cc nL own ret nm R Ex Qf cells slots (pc + 3) L st M) : pv_V l D ty base b cc nL own ret nm R Ex Qf cells slots pc L (.int y :: .int x :: st) M :=
  fun p e s m args below meth c C H locs ls hl hP hS => lv_icmp_le C.1.1 C.1.2.1 hd ht (fun h => k1 h p e s m args below meth c C H locs ls hl hP hS) (fun h => k2 h p e s m args below meth c C H locs ls hl hP hS)
theorem pv_icmpN_eq {x y : Nat} {off : Int} (tgt : Nat) (ht : (pc : Int) + off = (tgt : Int)) (hd : decode cc pc = .ok (.if_icmp .eq off, 3)) (ha : x < 2 ^ 31) (hb : y < 2 ^ 31) (k1 : (x = y) → pv_V l D ty base b cc nL own ret nm R Ex Qf cells slots tgt L st M) (k2 : (¬ x = y) → pv_V l D ty base b cc nL own ret nm R Ex Qf cells slots (pc + 3) L st M) : pv_V l D ty base b cc nL own ret nm R Ex Qf cells slots pc L (.int (nI y) :: .int (nI x) :: st) M :=
  pv_icmp_eq tgt ht hd (fun h => k1 ((nI_eq ha hb).mp h)) (fun h => k2 (fun z => h ((nI_eq ha hb).mpr z)))
theorem pv_icmpN_ne {x y : Nat} {off : Int} (tgt : Nat) (ht : (pc : Int) + off = (tgt : Int)) (hd : decode cc pc = .ok (.if_icmp .ne off, 3)) (ha : x < 2 ^ 31) (hb : y < 2 ^ 31) (k1 : (¬ x = y) → pv_V l D ty base b cc nL own ret nm R Ex Qf cells slots tgt L st M) (k2 : (x = y) → pv_V l D ty base b cc nL own ret nm R Ex Qf cells slots (pc + 3) L st M) : pv_V l D ty base b cc nL own ret nm R Ex Qf cells slots pc L (.int (nI y) :: .int (nI x) :: st) M :=
  pv_icmp_ne tgt ht hd (fun h => k1 (fun z => h ((nI_eq ha hb).mpr z))) (fun h => k2 ((nI_eq ha hb).mp h))
theorem pv_icmpN_lt {x y : Nat} {off : Int} (tgt : Nat) (ht : (pc : Int) + off = (tgt : Int)) (hd : decode cc pc = .ok (.if_icmp .lt off, 3)) (ha : x < 2 ^ 31) (hb : y < 2 ^ 31) (k1 : (x < y) → pv_V l D ty base b cc nL own ret nm R Ex Qf cells slots tgt L st M) (k2 : (y ≤ x) → pv_V l D ty base b cc nL own ret nm R Ex Qf cells slots (pc + 3) L st M) : pv_V l D ty base b cc nL own ret nm R Ex Qf cells slots pc L (.int (nI y) :: .int (nI x) :: st) M :=
  pv_icmp_lt tgt ht hd (fun h => k1 ((nI_ltI ha hb).mp h)) (fun h => k2 (Nat.not_lt.mp (fun z => h ((nI_ltI ha hb).mpr z))))
theorem pv_icmpN_ge {x y : Nat} {off : Int} (tgt : Nat) (ht : (pc : Int) + off = (tgt : Int)) (hd : decode cc pc = .ok (.if_icmp .ge off, 3)) (ha : x < 2 ^ 31) (hb : y < 2 ^ 31) (k1 : (y ≤ x) → pv_V l D ty base b cc nL own ret nm R Ex Qf cells slots tgt L st M) (k2 : (x < y) → pv_V l D ty base b cc nL own ret nm R Ex Qf cells slots (pc + 3) L st M) : pv_V l D ty base b cc nL own ret nm R Ex Qf cells slots pc L (.int (nI y) :: .int (nI x) :: st) M :=
  pv_icmp_ge tgt ht hd (fun h => k1 ((nI_leI hb ha).mp h)) (fun h => k2 (Nat.not_le.mp (fun z => h ((nI_leI hb ha).mpr z))))
theorem pv_icmpN_gt {x y : Nat} {off : Int} (tgt : Nat) (ht : (pc : Int) + off = (tgt : Int)) (hd : decode cc pc = .ok (.if_icmp .gt off, 3)) (ha : x < 2 ^ 31) (hb : y < 2 ^ 31) (k1 : (y < x) → pv_V l D ty base b cc nL own ret nm R Ex Qf cells slots tgt L st M) (k2 : (x ≤ y) → pv_V l D ty base b cc nL own ret nm R Ex Qf cells slots (pc + 3) L st M) : pv_V l D ty base b cc nL own ret nm R Ex Qf cells slots pc L (.int (nI y) :: .int (nI x) :: st) M :=
  pv_icmp_gt tgt ht hd (fun h => k1 ((nI_ltI hb ha).mp h)) (fun h => k2 (Nat.not_lt.mp (fun z => h ((nI_ltI hb ha).mpr z))))
theorem pv_icmpN_le {x y : Nat} {off : Int} (tgt : Nat) (ht : (pc : Int) + off = (tgt : Int)) (hd : decode cc pc = .ok (.if_icmp .le off, 3)) (ha : x < 2 ^ 31) (hb : y < 2 ^ 31) (k1 : (x ≤ y) → pv_V l D ty base b cc nL own ret nm R Ex Qf cells slots tgt L st M) (k2 : (y < x) → pv_V l D ty base b cc nL own ret nm R Ex Qf cells slots (pc + 3) L st M) : pv_V l D ty base b cc nL own ret nm R Ex Qf cells slots pc L (.int (nI y) :: .int (nI x) :: st) M :=
  pv_icmp_le tgt ht hd (fun h => k1 ((nI_leI ha hb).mp h)) (fun h => k2 (Nat.not_le.mp (fun z => h ((nI_leI ha hb).mpr z))))
theorem pv_acmp_eq {x y : Option Nat} {off : Int} (tgt : Nat) (ht : (pc : Int) + off = (tgt : Int)) (hd : decode cc pc = .ok (.if_acmp .eq off, 3)) (k1 : (x = y) → pv_V l D ty base b cc nL own ret nm R Ex Qf cells slots tgt L st M) (k2 : (¬ x = y) → pv_V l D ty base b cc nL own ret nm R Ex Qf cells slots (pc + 3) L st M) : pv_V l D ty base b cc nL own ret nm R Ex Qf cells slots pc L (pv_p y :: pv_p x :: st) M := by
  intro p e s m args below meth c C H locs ls hl hP hS
  have hg : ∀ z : Option Nat, pv_tr (pv_ad base b) (pv_p z) = va_rf (z.map (fun k => base + k)) := fun z => by cases z <;> rfl
  show W p l e R s m args below meth c H locs cells slots (Qf below args s) (F0 m pc ls (pv_tr (pv_ad base b) (pv_p y) :: pv_tr (pv_ad base b) (pv_p x) :: st.map (pv_tr (pv_ad base b))))
  rw [hg y, hg x]
  exact lv_acmp_eq C.1.1 C.1.2.1 hd ht (fun h => k1 (pv_p_inj h) p e s m args below meth c C H locs ls hl hP hS) (fun h => k2 (fun z => h (by rw [z])) p e s m args below meth c C H locs ls hl hP hS)
theorem pv_acmp_ne {x y : Option Nat} {off : Int} (tgt : Nat) (ht : (pc : Int) + off = (tgt : Int)) (hd : decode cc pc = .ok (.if_acmp .ne off, 3)) (k1 : (¬ x = y) → pv_V l D ty base b cc nL own ret nm R Ex Qf cells slots tgt L st M) (k2 : (x = y) → pv_V l D ty base b cc nL own ret nm R Ex Qf cells slots (pc + 3) L st M) : pv_V l D ty base b cc nL own ret nm R Ex Qf cells slots pc L (pv_p y :: pv_p x :: st) M := by
  intro p e s m args below meth c C H locs ls hl hP hS
  have hg : ∀ z : Option Nat, pv_tr (pv_ad base b) (pv_p z) = va_rf (z.map (fun k => base + k)) := fun z => by cases z <;> rfl
  show W p l e R s m args below meth c H locs cells slots (Qf below args s) (F0 m pc ls (pv_tr (pv_ad base b) (pv_p y) :: pv_tr (pv_ad base b) (pv_p x) :: st.map (pv_tr (pv_ad base b))))
  rw [hg y, hg x]
  exact lv_acmp_ne C.1.1 C.1.2.1 hd ht (fun h => k1 (fun z => h (by rw [z])) p e s m args below meth c C H locs ls hl hP hS) (fun h => k2 (pv_p_inj h) p e s m args below meth c C H locs ls hl hP hS)
theorem pv_goto {off : Int} (tgt : Nat) (ht : (pc : Int) + off = (tgt : Int)) (hd : decode cc pc = .ok (.goto off, 3)) (k : pv_V l D ty base b cc nL own ret nm R Ex Qf cells slots tgt L st M) : pv_V l D ty base b cc nL own ret nm R Ex Qf cells slots pc L st M :=
  fun p e s m args below meth c C H locs ls hl hP hS => lv_goto C.1.1 C.1.2.1 hd ht (k p e s m args below meth c C H locs ls hl hP hS)
theorem pv_ifnonnull {x : Nat} {off : Int} (tgt : Nat) (ht : (pc : Int) + off = (tgt : Int)) (hd : decode cc pc = .ok (.ifnonnull off, 3)) (k : pv_V l D ty base b cc nL own ret nm R Ex Qf cells slots tgt L st M) : pv_V l D ty base b cc nL own ret nm R Ex Qf cells slots pc L (.ref x :: st) M :=
  fun p e s m args below meth c C H locs ls hl hP hS => lv_ifnonnull C.1.1 C.1.2.1 hd ht (k p e s m args below meth c C H locs ls hl hP hS)
theorem pv_ifnull {x : Nat} {off : Int} (hd : decode cc pc = .ok (.ifnull off, 3)) (k : pv_V l D ty base b cc nL own ret nm R Ex Qf cells slots (pc + 3) L st M) : pv_V l D ty base b cc nL own ret nm R Ex Qf cells slots pc L (.ref x :: st) M :=
  fun p e s m args below meth c C H locs ls hl hP hS => lv_ifnull C.1.1 C.1.2.1 hd (k p e s m args below meth c C H locs ls hl hP hS)
theorem pv_ifnullN {off : Int} (tgt : Nat) (ht : (pc : Int) + off = (tgt : Int)) (hd : decode cc pc = .ok (.ifnull off, 3)) (k : pv_V l D ty base b cc nL own ret nm R Ex Qf cells slots tgt L st M) : pv_V l D ty base b cc nL own ret nm R Ex Qf cells slots pc L (.null :: st) M :=
  fun p e s m args below meth c C H locs ls hl hP hS => lv_ifnullN C.1.1 C.1.2.1 hd ht (k p e s m args below meth c C H locs ls hl hP hS)
theorem pv_ifnonnullN {off : Int} (hd : decode cc pc = .ok (.ifnonnull off, 3)) (k : pv_V l D ty base b cc nL own ret nm R Ex Qf cells slots (pc + 3) L st M) : pv_V l D ty base b cc nL own ret nm R Ex Qf cells slots pc L (.null :: st) M :=
  fun p e s m args below meth c C H locs ls hl hP hS => lv_ifnonnullN C.1.1 C.1.2.1 hd (k p e s m args below meth c C H locs ls hl hP hS)
theorem pv_get {k kf idx ci : Nat} {fs : List Value} {v : Value} (hd : decode cc pc = .ok (.getfield idx, 3)) (he : M[k]? = some (.inr (ci, fs))) (hf : pv_F own idx ci kf) (hv : fs[kf]? = some v) (kk : pv_V l D ty base b cc nL own ret nm R Ex Qf cells slots (pc + 3) L (v :: st) M) : pv_V l D ty base b cc nL own ret nm R Ex Qf cells slots pc L (.ref (k + 1) :: st) M := by
  intro p e s m args below meth c C H locs ls hl hP hS
  obtain ⟨Cn, T, N, hc, hk, hin, hlink, -⟩ := hf
  refine va_get C.1.1 C.1.2.1 C.1.2.2.2.2 hin C.1.2.2.2.1 C.2.1.1 hP k (pv_w_get he) hc kf hk (C.1.2.2.2.2 _ hlink) (fun _ h => h) (v := pv_tr (pv_ad base b) v) ?_ hd (kk p e s m args below meth c C H locs ls hl hP hS)
  rw [List.getElem?_map, hv]
  rfl
theorem pv_put {k kf idx ci : Nat} {fs : List Value} {v : Value} {fty : FieldType} (hd : decode cc pc = .ok (.putfield idx, 3)) (he : M[k]? = some (.inr (ci, fs))) (hf : pv_F own idx ci kf) (hp : pv_FP ci kf fty false) (hn : ∀ ad, narrow fty (pv_tr ad v) = pv_tr ad v) (hfit : ∀ ad, fits fty (pv_tr ad v) = true) (hl9 : kf < fs.length) (kk : pv_V l D ty base b cc nL own ret nm R Ex Qf cells slots (pc + 3) L st (M.set k (.inr (ci, fs.set kf v)))) : pv_V l D ty base b cc nL own ret nm R Ex Qf cells slots pc L (v :: .ref (k + 1) :: st) M := by
  intro p e s m args below meth c C H locs ls hl hP hS
  obtain ⟨Cn, T, N, hc, hk, hin, hlink, -⟩ := hf
  obtain ⟨Cn', T', N', ty0, hc', hty, hnm, hfin, hdd⟩ := hp
  have hq := Option.some.inj (hc.symm.trans hc')
  cases hq
  refine va_put C.1.1 C.1.2.1 C.1.2.2.2.2 hin ty0 hty hnm C.1.2.2.2.1 C.2.1.1 hP pv_D hS k (pv_w_get he) hc kf hk (C.1.2.2.2.2 _ hlink) (fun _ h => h) hfin (v := pv_tr (pv_ad base b) v) hdd (hn _) (hfit _) (by rw [List.length_map]; exact hl9) hd (fun H1 locs1 hP1 hD1 hS1 => ?_)
  refine kk p e s m args below meth c C H1 locs1 ls hl ?_ hS1
  rw [← pv_w_set]
  have e9 : pv_te ty (pv_ad base b) (.inr (ci, fs.set kf v)) = .inr (ci, (fs.map (pv_tr (pv_ad base b))).set kf (pv_tr (pv_ad base b) v)) := by
    simp [pv_te, List.map_set]
  rw [e9]
  exact hP1
theorem pv_putF {k kf idx ci : Nat} {fs : List Value} {v : Value} {fty : FieldType} (hd : decode cc pc = .ok (.putfield idx, 3)) (he : M[k]? = some (.inr (ci, fs))) (hf : pv_F own idx ci kf) (hp : pv_FP ci kf fty true) (hnm1 : nm = "<init>") (hown : pv_own own ci kf) (hn : ∀ ad, narrow fty (pv_tr ad v) = pv_tr ad v) (hfit : ∀ ad, fits fty (pv_tr ad v) = true) (hl9 : kf < fs.length) (kk : pv_V l D ty base b cc nL own ret nm R Ex Qf cells slots (pc + 3) L st (M.set k (.inr (ci, fs.set kf v)))) : pv_V l D ty base b cc nL own ret nm R Ex Qf cells slots pc L (v :: .ref (k + 1) :: st) M := by
  intro p e s m args below meth c C H locs ls hl hP hS
  obtain ⟨Cn, T, N, hc, hk, hin, hlink, -⟩ := hf
  obtain ⟨Cn', T', N', ty0, hc', hty, hnm, hfin, hdd⟩ := hp
  obtain ⟨Cn2, T2, N2, hc2, hdecl⟩ := hown
  have hq := Option.some.inj (hc.symm.trans hc')
  cases hq
  have hq2 := Option.some.inj (hc.symm.trans hc2)
  cases hq2
  refine va_putF C.1.1 C.1.2.1 C.1.2.2.2.2 hin ty0 hty hnm C.1.2.2.2.1 C.2.1.1 hP pv_D hS k (pv_w_get he) hc kf hk (C.1.2.2.2.2 _ hlink) (fun _ h => h) hfin (C.2.2.2.2.1.trans hnm1) hdecl (v := pv_tr (pv_ad base b) v) hdd (hn _) (hfit _) (by rw [List.length_map]; exact hl9) hd (fun H1 locs1 hP1 hD1 hS1 => ?_)
  refine kk p e s m args below meth c C H1 locs1 ls hl ?_ hS1
  rw [← pv_w_set]
  have e9 : pv_te ty (pv_ad base b) (.inr (ci, fs.set kf v)) = .inr (ci, (fs.map (pv_tr (pv_ad base b))).set kf (pv_tr (pv_ad base b) v)) := by
    simp [pv_te, List.map_set]
  rw [e9]
  exact hP1
theorem pv_iald {k n j : Nat} {f : Nat → Int32} (hd : decode cc pc = .ok (.iaload, 1)) (he : M[k]? = some (.inl (0, n, .inl f))) (hj : j < n) (hn : n < 2 ^ 31) (kk : pv_V l D ty base b cc nL own ret nm R Ex Qf cells slots (pc + 1) L (.int (f j) :: st) M) : pv_V l D ty base b cc nL own ret nm R Ex Qf cells slots pc L (.int (nI j) :: .ref (k + 1) :: st) M := by
  intro p e s m args below meth c C H locs ls hl hP hS
  refine va_iald C.1.1 C.1.2.1 C.2.1.1 hP k 0 (pv_w_get he) rfl (vp_in_nI hj hn) hd ?_
  rw [nI_clamp (Nat.lt_trans hj hn)]
  exact kk p e s m args below meth c C H locs ls hl hP hS
theorem pv_zald {k n j : Nat} {f : Nat → Int32} (hd : decode cc pc = .ok (.baload, 1)) (he : M[k]? = some (.inl (1, n, .inl f))) (hj : j < n) (hn : n < 2 ^ 31) (kk : pv_V l D ty base b cc nL own ret nm R Ex Qf cells slots (pc + 1) L (.int (f j) :: st) M) : pv_V l D ty base b cc nL own ret nm R Ex Qf cells slots pc L (.int (nI j) :: .ref (k + 1) :: st) M := by
  intro p e s m args below meth c C H locs ls hl hP hS
  refine va_zald C.1.1 C.1.2.1 C.2.1.1 hP k 1 (pv_w_get he) rfl (vp_in_nI hj hn) hd ?_
  rw [nI_clamp (Nat.lt_trans hj hn)]
  exact kk p e s m args below meth c C H locs ls hl hP hS
theorem pv_lald {k n j : Nat} {f : Nat → Int64} (hd : decode cc pc = .ok (.laload, 1)) (he : M[k]? = some (.inl (2, n, .inr (.inl f)))) (hj : j < n) (hn : n < 2 ^ 31) (kk : pv_V l D ty base b cc nL own ret nm R Ex Qf cells slots (pc + 1) L (.long (f j) :: st) M) : pv_V l D ty base b cc nL own ret nm R Ex Qf cells slots pc L (.int (nI j) :: .ref (k + 1) :: st) M := by
  intro p e s m args below meth c C H locs ls hl hP hS
  refine va_lald C.1.1 C.1.2.1 C.2.1.1 hP k 2 (pv_w_get he) rfl (vp_in_nI hj hn) hd ?_
  rw [nI_clamp (Nat.lt_trans hj hn)]
  exact kk p e s m args below meth c C H locs ls hl hP hS
theorem pv_iast {k n j : Nat} {f : Nat → Int32} {x : Int32} (hd : decode cc pc = .ok (.iastore, 1)) (he : M[k]? = some (.inl (0, n, .inl f))) (hj : j < n) (hn : n < 2 ^ 31) (kk : pv_V l D ty base b cc nL own ret nm R Ex Qf cells slots (pc + 1) L st (M.set k (.inl (0, n, .inl (upd f j x))))) : pv_V l D ty base b cc nL own ret nm R Ex Qf cells slots pc L (.int x :: .int (nI j) :: .ref (k + 1) :: st) M := by
  intro p e s m args below meth c C H locs ls hl hP hS
  refine va_iast C.1.1 C.1.2.1 C.2.1.1 hP pv_D hS k 0 (pv_w_get he) rfl (vp_in_nI hj hn) hd (fun H1 locs1 hP1 hD1 hS1 => ?_)
  refine kk p e s m args below meth c C H1 locs1 ls hl ?_ hS1
  rw [← pv_w_set]
  rw [nI_clamp (Nat.lt_trans hj hn)] at hP1
  exact hP1
theorem pv_zast {k n j : Nat} {f : Nat → Int32} {x : Int32} (hx : vp_nar .boolean x = x) (hd : decode cc pc = .ok (.bastore, 1)) (he : M[k]? = some (.inl (1, n, .inl f))) (hj : j < n) (hn : n < 2 ^ 31) (kk : pv_V l D ty base b cc nL own ret nm R Ex Qf cells slots (pc + 1) L st (M.set k (.inl (1, n, .inl (upd f j x))))) : pv_V l D ty base b cc nL own ret nm R Ex Qf cells slots pc L (.int x :: .int (nI j) :: .ref (k + 1) :: st) M := by
  intro p e s m args below meth c C H locs ls hl hP hS
  refine va_zast C.1.1 C.1.2.1 C.2.1.1 hP pv_D hS k 1 (pv_w_get he) rfl (vp_in_nI hj hn) hd (fun H1 locs1 hP1 hD1 hS1 => ?_)
  refine kk p e s m args below meth c C H1 locs1 ls hl ?_ hS1
  rw [← pv_w_set]
  rw [nI_clamp (Nat.lt_trans hj hn), hx] at hP1
  exact hP1
theorem pv_last {k n j : Nat} {f : Nat → Int64} {x : Int64} (hd : decode cc pc = .ok (.lastore, 1)) (he : M[k]? = some (.inl (2, n, .inr (.inl f)))) (hj : j < n) (hn : n < 2 ^ 31) (kk : pv_V l D ty base b cc nL own ret nm R Ex Qf cells slots (pc + 1) L st (M.set k (.inl (2, n, .inr (.inl (vp_updL f j x)))))) : pv_V l D ty base b cc nL own ret nm R Ex Qf cells slots pc L (.long x :: .int (nI j) :: .ref (k + 1) :: st) M := by
  intro p e s m args below meth c C H locs ls hl hP hS
  refine va_last C.1.1 C.1.2.1 C.2.1.1 hP pv_D hS k 2 (pv_w_get he) rfl (vp_in_nI hj hn) hd (fun H1 locs1 hP1 hD1 hS1 => ?_)
  refine kk p e s m args below meth c C H1 locs1 ls hl ?_ hS1
  rw [← pv_w_set]
  rw [nI_clamp (Nat.lt_trans hj hn)] at hP1
  exact hP1
theorem pv_aald3 {k n j q : Nat} {f : Nat → Option Nat} (hd : decode cc pc = .ok (.aaload, 1)) (he : M[k]? = some (.inl (3, n, .inr (.inr (.inr (.inr f)))))) (hj : j < n) (hn : n < 2 ^ 31) (hq : f j = some q) (kk : pv_V l D ty base b cc nL own ret nm R Ex Qf cells slots (pc + 1) L (.ref q :: st) M) : pv_V l D ty base b cc nL own ret nm R Ex Qf cells slots pc L (.int (nI j) :: .ref (k + 1) :: st) M := by
  intro p e s m args below meth c C H locs ls hl hP hS
  refine va_aldq (C := pv_RN) C.1.1 C.1.2.1 C.2.1.1 hP k 3 (pv_w_get he) rfl (vp_in_nI hj hn) hd ?_
  rw [nI_clamp (Nat.lt_trans hj hn), hq]
  exact kk p e s m args below meth c C H locs ls hl hP hS
theorem pv_aast3 {k n j q ci : Nat} {f : Nat → Option Nat} {T : u_T} {N : Nat} {vs : List Value} (hd : decode cc pc = .ok (.aastore, 1)) (he : M[k]? = some (.inl (3, n, .inr (.inr (.inr (.inr f)))))) (hq : M[q]? = some (.inr (ci, vs))) (hc : pv_cl[ci]? = some (pv_RN, T, N)) (hj : j < n) (hn : n < 2 ^ 31) (kk : pv_V l D ty base b cc nL own ret nm R Ex Qf cells slots (pc + 1) L st (M.set k (.inl (3, n, .inr (.inr (.inr (.inr (va_up f j (some (q + 1))))))))) ) : pv_V l D ty base b cc nL own ret nm R Ex Qf cells slots pc L (.ref (q + 1) :: .int (nI j) :: .ref (k + 1) :: st) M := by
  intro p e s m args below meth c C H locs ls hl hP hS
  refine va_astq C.1.1 C.1.2.1 C.2.1.1 hP pv_D hS k 3 q ci (pv_w_get he) rfl (pv_w_get hq) hc (vp_in_nI hj hn) hd (fun H1 locs1 hP1 hD1 hS1 => ?_)
  refine kk p e s m args below meth c C H1 locs1 ls hl ?_ hS1
  rw [← pv_w_set]
  rw [nI_clamp (Nat.lt_trans hj hn)] at hP1
  have e9 : pv_te ty (pv_ad base b) (.inl (3, n, .inr (.inr (.inr (.inr (va_up f j (some (q + 1)))))))) = .inl (ty 3, n, .inr (.inr (.inr (.inr (va_up (fun j => (f j).map (pv_ad base b)) j (some (base + q))))))) := by
    simp only [pv_te, pv_ta]
    congr 7
    funext i
    by_cases hi : i = j <;> simp [va_up, hi, pv_ad]
  rw [e9]
  exact hP1
theorem pv_aald4 {k n j q : Nat} {f : Nat → Option Nat} (hd : decode cc pc = .ok (.aaload, 1)) (he : M[k]? = some (.inl (4, n, .inr (.inr (.inr (.inr f)))))) (hj : j < n) (hn : n < 2 ^ 31) (hq : f j = some q) (kk : pv_V l D ty base b cc nL own ret nm R Ex Qf cells slots (pc + 1) L (.ref q :: st) M) : pv_V l D ty base b cc nL own ret nm R Ex Qf cells slots pc L (.int (nI j) :: .ref (k + 1) :: st) M := by
  intro p e s m args below meth c C H locs ls hl hP hS
  refine va_aldq (C := pv_RR) C.1.1 C.1.2.1 C.2.1.1 hP k 4 (pv_w_get he) rfl (vp_in_nI hj hn) hd ?_
  rw [nI_clamp (Nat.lt_trans hj hn), hq]
  exact kk p e s m args below meth c C H locs ls hl hP hS
theorem pv_aast4 {k n j q ci : Nat} {f : Nat → Option Nat} {T : u_T} {N : Nat} {vs : List Value} (hd : decode cc pc = .ok (.aastore, 1)) (he : M[k]? = some (.inl (4, n, .inr (.inr (.inr (.inr f)))))) (hq : M[q]? = some (.inr (ci, vs))) (hc : pv_cl[ci]? = some (pv_RR, T, N)) (hj : j < n) (hn : n < 2 ^ 31) (kk : pv_V l D ty base b cc nL own ret nm R Ex Qf cells slots (pc + 1) L st (M.set k (.inl (4, n, .inr (.inr (.inr (.inr (va_up f j (some (q + 1))))))))) ) : pv_V l D ty base b cc nL own ret nm R Ex Qf cells slots pc L (.ref (q + 1) :: .int (nI j) :: .ref (k + 1) :: st) M := by
  intro p e s m args below meth c C H locs ls hl hP hS
  refine va_astq C.1.1 C.1.2.1 C.2.1.1 hP pv_D hS k 4 q ci (pv_w_get he) rfl (pv_w_get hq) hc (vp_in_nI hj hn) hd (fun H1 locs1 hP1 hD1 hS1 => ?_)
  refine kk p e s m args below meth c C H1 locs1 ls hl ?_ hS1
  rw [← pv_w_set]
  rw [nI_clamp (Nat.lt_trans hj hn)] at hP1
  have e9 : pv_te ty (pv_ad base b) (.inl (4, n, .inr (.inr (.inr (.inr (va_up f j (some (q + 1)))))))) = .inl (ty 4, n, .inr (.inr (.inr (.inr (va_up (fun j => (f j).map (pv_ad base b)) j (some (base + q))))))) := by
    simp only [pv_te, pv_ta]
    congr 7
    funext i
    by_cases hi : i = j <;> simp [va_up, hi, pv_ad]
  rw [e9]
  exact hP1
theorem pv_alen {k t n : Nat} {fty : FieldType} {x : (Nat → Int32) ⊕ (Nat → Int64) ⊕ (Nat → UInt32) ⊕ (Nat → UInt64) ⊕ (Nat → Option Nat)} (hd : decode cc pc = .ok (.arraylength, 1)) (he : M[k]? = some (.inl (t, n, x))) (ht : ∀ ty, (pv_tys ty)[t]? = some (ty t, fty)) (kk : pv_V l D ty base b cc nL own ret nm R Ex Qf cells slots (pc + 1) L (.int (nI n) :: st) M) : pv_V l D ty base b cc nL own ret nm R Ex Qf cells slots pc L (.ref (k + 1) :: st) M :=
  fun p e s m args below meth c C H locs ls hl hP hS => va_alen C.1.1 C.1.2.1 C.2.1.1 hP k t (pv_w_get he) (ht ty) rfl hd (kk p e s m args below meth c C H locs ls hl hP hS)
theorem pv_sld {n j : Nat} {xs : Nat → Int32} (hd : decode cc pc = .ok (.iaload, 1)) (hE : ∀ s, Ex s → va_X b n xs s s.heap ∧ b < base) (hj : j < n) (hn : n < 2 ^ 31) (kk : pv_V l D ty base b cc nL own ret nm R Ex Qf cells slots (pc + 1) L (.int (xs j) :: st) M) : pv_V l D ty base b cc nL own ret nm R Ex Qf cells slots pc L (.int (nI j) :: .ref 0 :: st) M := by
  intro p e s m args below meth c C H locs ls hl hP hS
  obtain ⟨hX, hb⟩ := hE s C.2.2.2.2.2.2
  refine va_sld (A := fun q => base ≤ q) C.1.1 C.1.2.1 hX (Nat.lt_of_lt_of_le hb C.2.2.2.2.2.1) (Nat.not_le.mpr hb) hS (vp_in_nI hj hn) hd ?_
  rw [nI_clamp (Nat.lt_trans hj hn)]
  exact kk p e s m args below meth c C H locs ls hl hP hS
theorem pv_slen {n : Nat} {xs : Nat → Int32} (hd : decode cc pc = .ok (.arraylength, 1)) (hE : ∀ s, Ex s → va_X b n xs s s.heap ∧ b < base) (kk : pv_V l D ty base b cc nL own ret nm R Ex Qf cells slots (pc + 1) L (.int (nI n) :: st) M) : pv_V l D ty base b cc nL own ret nm R Ex Qf cells slots pc L (.ref 0 :: st) M := by
  intro p e s m args below meth c C H locs ls hl hP hS
  obtain ⟨hX, hb⟩ := hE s C.2.2.2.2.2.2
  exact va_slen (A := fun q => base ≤ q) C.1.1 C.1.2.1 hX (Nat.lt_of_lt_of_le hb C.2.2.2.2.2.1) (Nat.not_le.mpr hb) hS hd (kk p e s m args below meth c C H locs ls hl hP hS)
end PV
