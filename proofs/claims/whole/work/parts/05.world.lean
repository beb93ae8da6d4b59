/-! 04.world: the cells of the class (40) and of the reference (21) as functions of a state -/
section WORLD
def sU (σ : Nat → Nat → Nat) (f i v : Nat) : Nat → Nat → Nat := fun g j => if g = f ∧ j = i then v else σ g j
theorem sU_same {σ : Nat → Nat → Nat} {f i v : Nat} : sU σ f i v f i = v := if_pos ⟨rfl, rfl⟩
theorem sU_ne {σ : Nat → Nat → Nat} {f i v g j : Nat} (h : ¬ (g = f ∧ j = i)) : sU σ f i v g j = σ g j := if_neg h
theorem sU_nef {σ : Nat → Nat → Nat} {f i v g j : Nat} (h : g ≠ f) : sU σ f i v g j = σ g j := if_neg (fun q => h q.1)
theorem sU_nei {σ : Nat → Nat → Nat} {f i v g j : Nat} (h : j ≠ i) : sU σ f i v g j = σ g j := if_neg (fun q => h q.2)
def pN (n : Nat) : Nat := 2 + 3 * n
def pR (r : Nat) : Nat := 18 + 3 * r
def xp (v : Nat) : Option Nat := match v with
  | 0 => none
  | r + 1 => some (pR r)
def xOf (σ : Nat → Nat → Nat) (i : Nat) : List Value := [.ref (1 + 1), .ref (17 + 1), .ref (36 + 1), .int (nI (σ 0 0))]
def xO (σ : Nat → Nat → Nat) (i : Nat) : va_E := .inr (3, xOf σ i)
def xNf (σ : Nat → Nat → Nat) (i : Nat) : List Value := [.int (nI i), .ref (3 + 3 * i + 1), .ref (4 + 3 * i + 1), pv_p (xp (σ 1 i)), .long (lN (σ 2 i)), .int (nI (σ 3 i)), .int (nI (σ 4 i)), .int (nI (σ 5 i)), .int (nI (σ 6 i)), .int (nI (σ 7 i)), .int (nI (σ 8 i)), .int (nI (σ 9 i))]
def xN (σ : Nat → Nat → Nat) (i : Nat) : va_E := .inr (1, xNf σ i)
def xRf (σ : Nat → Nat → Nat) (i : Nat) : List Value := [.ref (19 + 3 * i + 1), .ref (20 + 3 * i + 1), .int (nI (σ 10 i)), .int (nI (σ 11 i)), .int (nI (σ 12 i) - 1), .int (nI (σ 13 i)), .long (lN (σ 14 i))]
def xR (σ : Nat → Nat → Nat) (i : Nat) : va_E := .inr (2, xRf σ i)
def xMf (σ : Nat → Nat → Nat) (i : Nat) : List Value := [.ref (37 + 1), .ref (38 + 1), .ref (39 + 1), .int (nI (σ 15 0))]
def xM (σ : Nat → Nat → Nat) (i : Nat) : va_E := .inr (0, xMf σ i)
def xYf (σ : Nat → Nat → Nat) (i : Nat) : List Value := [.ref (41 + 1), .ref (42 + 1), .ref (43 + 1), .ref (44 + 1), .ref (45 + 1), .ref (46 + 1), .ref (47 + 1), .ref (48 + 1), .ref (49 + 1), .ref (50 + 1), .int (nI (σ 10 0)), .ref (51 + 1), .ref (52 + 1), .ref (53 + 1), .ref (54 + 1), .ref (55 + 1), .int (nI (σ 16 0)), .ref (56 + 1), .ref (57 + 1), .ref (58 + 1), .ref (59 + 1), .ref (60 + 1)]
def xY (σ : Nat → Nat → Nat) (i : Nat) : va_E := .inr (4, xYf σ i)
def xNs : va_E := .inl (3, 5, .inr (.inr (.inr (.inr (fun j => if j < 5 then some (pN j + 1) else none)))))
def xRs : va_E := .inl (4, 6, .inr (.inr (.inr (.inr (fun j => if j < 6 then some (pR j + 1) else none)))))
def xa_queue (σ : Nat → Nat → Nat) (i : Nat) : va_E := .inl (0, 8, .inl (fun j => nI (σ (20 + i) j)))
def xa_entries (σ : Nat → Nat → Nat) (i : Nat) : va_E := .inl (0, 48, .inl (fun j => nI (σ (30 + i) j)))
def xa_messageAt (σ : Nat → Nat → Nat) (i : Nat) : va_E := .inl (0, 49, .inl (fun j => nI (σ (40 + i) j)))
def xa_marks (σ : Nat → Nat → Nat) (i : Nat) : va_E := .inl (0, 5, .inl (fun j => nI (σ (50 + i) j)))
def xa_origins (σ : Nat → Nat → Nat) (i : Nat) : va_E := .inl (0, 49, .inl (fun j => nI (σ (60) j)))
def xa_safe (σ : Nat → Nat → Nat) (i : Nat) : va_E := .inl (1, 49, .inl (fun j => nI (σ (61) j)))
def xa_stamps (σ : Nat → Nat → Nat) (i : Nat) : va_E := .inl (0, 49, .inl (fun j => nI (σ (62) j)))
def ya_up (σ : Nat → Nat → Nat) : va_E := .inl (1, 5, .inl (fun j => nI (σ 0 j)))
def ya_area (σ : Nat → Nat → Nat) : va_E := .inl (0, 5, .inl (fun j => nI (σ 1 j)))
def ya_ringOf (σ : Nat → Nat → Nat) : va_E := .inl (0, 5, .inl (fun j => nI (σ 2 j)))
def ya_lineOf (σ : Nat → Nat → Nat) : va_E := .inl (0, 5, .inl (fun j => nI (σ 3 j)))
def ya_placeOf (σ : Nat → Nat → Nat) : va_E := .inl (0, 5, .inl (fun j => nI (σ 4 j)))
def ya_deaf (σ : Nat → Nat → Nat) : va_E := .inl (0, 5, .inl (fun j => nI (σ 5 j)))
def ya_timer (σ : Nat → Nat → Nat) : va_E := .inl (0, 5, .inl (fun j => nI (σ 6 j)))
def ya_hold (σ : Nat → Nat → Nat) : va_E := .inl (1, 245, .inl (fun j => nI (σ 7 j)))
def ya_logs (σ : Nat → Nat → Nat) : va_E := .inl (0, 240, .inl (fun j => nI (σ 8 j)))
def ya_entries (σ : Nat → Nat → Nat) : va_E := .inl (0, 5, .inl (fun j => nI (σ 9 j)))
def ya_origin (σ : Nat → Nat → Nat) : va_E := .inl (0, 49, .inl (fun j => nI (σ 11 j)))
def ya_isSafe (σ : Nat → Nat → Nat) : va_E := .inl (1, 49, .inl (fun j => nI (σ 12 j)))
def ya_gone (σ : Nat → Nat → Nat) : va_E := .inl (1, 49, .inl (fun j => nI (σ 13 j)))
def ya_ringIn (σ : Nat → Nat → Nat) : va_E := .inl (0, 49, .inl (fun j => nI (σ 14 j)))
def ya_number (σ : Nat → Nat → Nat) : va_E := .inl (0, 49, .inl (fun j => nI (σ 15 j)))
def ya_at (σ : Nat → Nat → Nat) : va_E := .inl (0, 520, .inl (fun j => nI (σ 17 j) - 1))
def ya_latest (σ : Nat → Nat → Nat) : va_E := .inl (0, 520, .inl (fun j => nI (σ 18 j)))
def ya_memberBits (σ : Nat → Nat → Nat) : va_E := .inl (0, 520, .inl (fun j => nI (σ 19 j)))
def ya_marks (σ : Nat → Nat → Nat) : va_E := .inl (0, 2600, .inl (fun j => nI (σ 20 j)))
def ya_wanted (σ : Nat → Nat → Nat) : va_E := .inl (2, 520, .inr (.inl (fun j => lN (σ 21 j))))
def memX (σ : Nat → Nat → Nat) : List va_E := [xO σ 0, xNs, xN σ 0, xa_queue σ 0, xa_entries σ 0, xN σ 1, xa_queue σ 1, xa_entries σ 1, xN σ 2, xa_queue σ 2, xa_entries σ 2, xN σ 3, xa_queue σ 3, xa_entries σ 3, xN σ 4, xa_queue σ 4, xa_entries σ 4, xRs, xR σ 0, xa_messageAt σ 0, xa_marks σ 0, xR σ 1, xa_messageAt σ 1, xa_marks σ 1, xR σ 2, xa_messageAt σ 2, xa_marks σ 2, xR σ 3, xa_messageAt σ 3, xa_marks σ 3, xR σ 4, xa_messageAt σ 4, xa_marks σ 4, xR σ 5, xa_messageAt σ 5, xa_marks σ 5, xM σ 0, xa_origins σ 0, xa_safe σ 0, xa_stamps σ 0]
def memY (σ : Nat → Nat → Nat) : List va_E := [xY σ 0, ya_up σ, ya_area σ, ya_ringOf σ, ya_lineOf σ, ya_placeOf σ, ya_deaf σ, ya_timer σ, ya_hold σ, ya_logs σ, ya_entries σ, ya_origin σ, ya_isSafe σ, ya_gone σ, ya_ringIn σ, ya_number σ, ya_at σ, ya_latest σ, ya_memberBits σ, ya_marks σ, ya_wanted σ]
variable {σ : Nat → Nat → Nat} {ρ ξ : List va_E}
theorem gx_O : (memX σ ++ ρ)[0]? = some (xO σ 0) := rfl
theorem gx_Ns : (memX σ ++ ρ)[1]? = some xNs := rfl
theorem gx_Rs : (memX σ ++ ρ)[17]? = some xRs := rfl
theorem gx_M : (memX σ ++ ρ)[36]? = some (xM σ 0) := rfl
theorem gx_N {i : Nat} (hi : i < 5) : (memX σ ++ ρ)[pN i]? = some (xN σ i) := match i, hi with
  | 0, _ => rfl
  | 1, _ => rfl
  | 2, _ => rfl
  | 3, _ => rfl
  | 4, _ => rfl
  | k + 5, h => absurd h (by omega)
theorem gx_R {i : Nat} (hi : i < 6) : (memX σ ++ ρ)[pR i]? = some (xR σ i) := match i, hi with
  | 0, _ => rfl
  | 1, _ => rfl
  | 2, _ => rfl
  | 3, _ => rfl
  | 4, _ => rfl
  | 5, _ => rfl
  | k + 6, h => absurd h (by omega)
theorem gx_queue {i : Nat} (hi : i < 5) : (memX σ ++ ρ)[3 + 3 * i]? = some (xa_queue σ i) := match i, hi with
  | 0, _ => rfl
  | 1, _ => rfl
  | 2, _ => rfl
  | 3, _ => rfl
  | 4, _ => rfl
  | k + 5, h => absurd h (by omega)
theorem gx_entries {i : Nat} (hi : i < 5) : (memX σ ++ ρ)[4 + 3 * i]? = some (xa_entries σ i) := match i, hi with
  | 0, _ => rfl
  | 1, _ => rfl
  | 2, _ => rfl
  | 3, _ => rfl
  | 4, _ => rfl
  | k + 5, h => absurd h (by omega)
theorem gx_messageAt {i : Nat} (hi : i < 6) : (memX σ ++ ρ)[19 + 3 * i]? = some (xa_messageAt σ i) := match i, hi with
  | 0, _ => rfl
  | 1, _ => rfl
  | 2, _ => rfl
  | 3, _ => rfl
  | 4, _ => rfl
  | 5, _ => rfl
  | k + 6, h => absurd h (by omega)
theorem gx_marks {i : Nat} (hi : i < 6) : (memX σ ++ ρ)[20 + 3 * i]? = some (xa_marks σ i) := match i, hi with
  | 0, _ => rfl
  | 1, _ => rfl
  | 2, _ => rfl
  | 3, _ => rfl
  | 4, _ => rfl
  | 5, _ => rfl
  | k + 6, h => absurd h (by omega)
theorem gx_origins : (memX σ ++ ρ)[37]? = some (xa_origins σ 0) := rfl
theorem gx_safe : (memX σ ++ ρ)[38]? = some (xa_safe σ 0) := rfl
theorem gx_stamps : (memX σ ++ ρ)[39]? = some (xa_stamps σ 0) := rfl
theorem gy_0 {k : Nat} (hξ : ξ.length = 40) : (ξ ++ memY σ)[40 + k]? = (memY σ)[k]? := by
  rw [List.getElem?_append_right (by omega), hξ, Nat.add_sub_cancel_left]
theorem gy_Y (hξ : ξ.length = 40) : (ξ ++ memY σ)[40]? = some (xY σ 0) := gy_0 (k := 0) hξ
theorem gy_up (hξ : ξ.length = 40) : (ξ ++ memY σ)[41]? = some (ya_up σ) := gy_0 (k := 1) hξ
theorem gy_area (hξ : ξ.length = 40) : (ξ ++ memY σ)[42]? = some (ya_area σ) := gy_0 (k := 2) hξ
theorem gy_ringOf (hξ : ξ.length = 40) : (ξ ++ memY σ)[43]? = some (ya_ringOf σ) := gy_0 (k := 3) hξ
theorem gy_lineOf (hξ : ξ.length = 40) : (ξ ++ memY σ)[44]? = some (ya_lineOf σ) := gy_0 (k := 4) hξ
theorem gy_placeOf (hξ : ξ.length = 40) : (ξ ++ memY σ)[45]? = some (ya_placeOf σ) := gy_0 (k := 5) hξ
theorem gy_deaf (hξ : ξ.length = 40) : (ξ ++ memY σ)[46]? = some (ya_deaf σ) := gy_0 (k := 6) hξ
theorem gy_timer (hξ : ξ.length = 40) : (ξ ++ memY σ)[47]? = some (ya_timer σ) := gy_0 (k := 7) hξ
theorem gy_hold (hξ : ξ.length = 40) : (ξ ++ memY σ)[48]? = some (ya_hold σ) := gy_0 (k := 8) hξ
theorem gy_logs (hξ : ξ.length = 40) : (ξ ++ memY σ)[49]? = some (ya_logs σ) := gy_0 (k := 9) hξ
theorem gy_entries (hξ : ξ.length = 40) : (ξ ++ memY σ)[50]? = some (ya_entries σ) := gy_0 (k := 10) hξ
theorem gy_origin (hξ : ξ.length = 40) : (ξ ++ memY σ)[51]? = some (ya_origin σ) := gy_0 (k := 11) hξ
theorem gy_isSafe (hξ : ξ.length = 40) : (ξ ++ memY σ)[52]? = some (ya_isSafe σ) := gy_0 (k := 12) hξ
theorem gy_gone (hξ : ξ.length = 40) : (ξ ++ memY σ)[53]? = some (ya_gone σ) := gy_0 (k := 13) hξ
theorem gy_ringIn (hξ : ξ.length = 40) : (ξ ++ memY σ)[54]? = some (ya_ringIn σ) := gy_0 (k := 14) hξ
theorem gy_number (hξ : ξ.length = 40) : (ξ ++ memY σ)[55]? = some (ya_number σ) := gy_0 (k := 15) hξ
theorem gy_at (hξ : ξ.length = 40) : (ξ ++ memY σ)[56]? = some (ya_at σ) := gy_0 (k := 16) hξ
theorem gy_latest (hξ : ξ.length = 40) : (ξ ++ memY σ)[57]? = some (ya_latest σ) := gy_0 (k := 17) hξ
theorem gy_memberBits (hξ : ξ.length = 40) : (ξ ++ memY σ)[58]? = some (ya_memberBits σ) := gy_0 (k := 18) hξ
theorem gy_marks (hξ : ξ.length = 40) : (ξ ++ memY σ)[59]? = some (ya_marks σ) := gy_0 (k := 19) hξ
theorem gy_wanted (hξ : ξ.length = 40) : (ξ ++ memY σ)[60]? = some (ya_wanted σ) := gy_0 (k := 20) hξ
theorem sy_0 {k : Nat} {e : va_E} {σ1 : Nat → Nat → Nat} (hξ : ξ.length = 40) (h : (memY σ).set k e = memY σ1) : (ξ ++ memY σ).set (40 + k) e = ξ ++ memY σ1 := by
  rw [List.set_append_right _ _ (by omega), hξ, Nat.add_sub_cancel_left, h]
variable {l : Launch} {D : va_G} {ty : Nat → ClassId} {base b : Nat} {cc : ByteArray} {nL : Nat} {own : String} {ret : Option FieldType} {nm : String} {R : Room} {Ex : State → Prop} {Qf : List Frame → Array Value → State → State → Prop} {cells slots pc : Nat} {L : List (Option Value)} {st : List Value}
theorem gO_nodes {idx : Nat} (hd : decode cc pc = .ok (.getfield idx, 3)) (hf : pv_F own idx 3 0) (kk : pv_V l D ty base b cc nL own ret nm R Ex Qf cells slots (pc + 3) L (.ref (1 + 1) :: st) (memX σ ++ ρ)) : pv_V l D ty base b cc nL own ret nm R Ex Qf cells slots pc L (.ref (0 + 1) :: st) (memX σ ++ ρ) := pv_get hd gx_O hf rfl kk
theorem gO_rings {idx : Nat} (hd : decode cc pc = .ok (.getfield idx, 3)) (hf : pv_F own idx 3 1) (kk : pv_V l D ty base b cc nL own ret nm R Ex Qf cells slots (pc + 3) L (.ref (17 + 1) :: st) (memX σ ++ ρ)) : pv_V l D ty base b cc nL own ret nm R Ex Qf cells slots pc L (.ref (0 + 1) :: st) (memX σ ++ ρ) := pv_get hd gx_O hf rfl kk
theorem gO_messages {idx : Nat} (hd : decode cc pc = .ok (.getfield idx, 3)) (hf : pv_F own idx 3 2) (kk : pv_V l D ty base b cc nL own ret nm R Ex Qf cells slots (pc + 3) L (.ref (36 + 1) :: st) (memX σ ++ ρ)) : pv_V l D ty base b cc nL own ret nm R Ex Qf cells slots pc L (.ref (0 + 1) :: st) (memX σ ++ ρ) := pv_get hd gx_O hf rfl kk
theorem gO_greatestRing {idx : Nat} (hd : decode cc pc = .ok (.getfield idx, 3)) (hf : pv_F own idx 3 3) (kk : pv_V l D ty base b cc nL own ret nm R Ex Qf cells slots (pc + 3) L (.int (nI (σ 0 0)) :: st) (memX σ ++ ρ)) : pv_V l D ty base b cc nL own ret nm R Ex Qf cells slots pc L (.ref (0 + 1) :: st) (memX σ ++ ρ) := pv_get hd gx_O hf rfl kk
theorem sO_greatestRing {v : Nat} : (memX σ ++ ρ).set 0 (.inr (3, (xOf σ 0).set 3 (.int (nI v)))) = memX (sU σ 0 0 v) ++ ρ := rfl
theorem pO_greatestRing {v : Nat} {idx : Nat} (hd : decode cc pc = .ok (.putfield idx, 3)) (hf : pv_F own idx 3 3) (kk : pv_V l D ty base b cc nL own ret nm R Ex Qf cells slots (pc + 3) L st (memX (sU σ 0 0 v) ++ ρ)) : pv_V l D ty base b cc nL own ret nm R Ex Qf cells slots pc L (.int (nI v) :: .ref (0 + 1) :: st) (memX σ ++ ρ) := by
  refine pv_put hd gx_O hf fp_O_greatestRing (fun _ => rfl) (fun _ => rfl) (Nat.le_of_ble_eq_true rfl) ?_
  rw [sO_greatestRing]
  exact kk
theorem gN_number {i : Nat} {idx : Nat} (hd : decode cc pc = .ok (.getfield idx, 3)) (hf : pv_F own idx 1 0) (hi : i < 5) (kk : pv_V l D ty base b cc nL own ret nm R Ex Qf cells slots (pc + 3) L (.int (nI i) :: st) (memX σ ++ ρ)) : pv_V l D ty base b cc nL own ret nm R Ex Qf cells slots pc L (.ref (pN i + 1) :: st) (memX σ ++ ρ) := pv_get hd (gx_N hi) hf rfl kk
theorem gN_queue {i : Nat} {idx : Nat} (hd : decode cc pc = .ok (.getfield idx, 3)) (hf : pv_F own idx 1 1) (hi : i < 5) (kk : pv_V l D ty base b cc nL own ret nm R Ex Qf cells slots (pc + 3) L (.ref (3 + 3 * i + 1) :: st) (memX σ ++ ρ)) : pv_V l D ty base b cc nL own ret nm R Ex Qf cells slots pc L (.ref (pN i + 1) :: st) (memX σ ++ ρ) := pv_get hd (gx_N hi) hf rfl kk
theorem gN_entries {i : Nat} {idx : Nat} (hd : decode cc pc = .ok (.getfield idx, 3)) (hf : pv_F own idx 1 2) (hi : i < 5) (kk : pv_V l D ty base b cc nL own ret nm R Ex Qf cells slots (pc + 3) L (.ref (4 + 3 * i + 1) :: st) (memX σ ++ ρ)) : pv_V l D ty base b cc nL own ret nm R Ex Qf cells slots pc L (.ref (pN i + 1) :: st) (memX σ ++ ρ) := pv_get hd (gx_N hi) hf rfl kk
theorem gN_ring {i : Nat} {idx : Nat} (hd : decode cc pc = .ok (.getfield idx, 3)) (hf : pv_F own idx 1 3) (hi : i < 5) (kk : pv_V l D ty base b cc nL own ret nm R Ex Qf cells slots (pc + 3) L (pv_p (xp (σ 1 i)) :: st) (memX σ ++ ρ)) : pv_V l D ty base b cc nL own ret nm R Ex Qf cells slots pc L (.ref (pN i + 1) :: st) (memX σ ++ ρ) := pv_get hd (gx_N hi) hf rfl kk
theorem sN_ring0 {i : Nat} (hi : i < 5) : (memX σ ++ ρ).set (pN i) (.inr (1, (xNf σ i).set 3 (.null))) = memX (sU σ 1 i 0) ++ ρ := match i, hi with
  | 0, _ => rfl
  | 1, _ => rfl
  | 2, _ => rfl
  | 3, _ => rfl
  | 4, _ => rfl
  | k + 5, h => absurd h (by omega)
theorem pN_ring0 {i : Nat} {idx : Nat} (hd : decode cc pc = .ok (.putfield idx, 3)) (hf : pv_F own idx 1 3) (hi : i < 5) (kk : pv_V l D ty base b cc nL own ret nm R Ex Qf cells slots (pc + 3) L st (memX (sU σ 1 i 0) ++ ρ)) : pv_V l D ty base b cc nL own ret nm R Ex Qf cells slots pc L (.null :: .ref (pN i + 1) :: st) (memX σ ++ ρ) := by
  refine pv_put hd (gx_N hi) hf fp_N_ring (fun _ => rfl) (fun _ => rfl) (Nat.le_of_ble_eq_true rfl) ?_
  rw [sN_ring0 hi]
  exact kk
theorem sN_ringr {i : Nat} {v : Nat} (hi : i < 5) : (memX σ ++ ρ).set (pN i) (.inr (1, (xNf σ i).set 3 (.ref (pR v + 1)))) = memX (sU σ 1 i (v + 1)) ++ ρ := match i, hi with
  | 0, _ => rfl
  | 1, _ => rfl
  | 2, _ => rfl
  | 3, _ => rfl
  | 4, _ => rfl
  | k + 5, h => absurd h (by omega)
theorem pN_ringr {i : Nat} {v : Nat} {idx : Nat} (hd : decode cc pc = .ok (.putfield idx, 3)) (hf : pv_F own idx 1 3) (hi : i < 5) (kk : pv_V l D ty base b cc nL own ret nm R Ex Qf cells slots (pc + 3) L st (memX (sU σ 1 i (v + 1)) ++ ρ)) : pv_V l D ty base b cc nL own ret nm R Ex Qf cells slots pc L (.ref (pR v + 1) :: .ref (pN i + 1) :: st) (memX σ ++ ρ) := by
  refine pv_put hd (gx_N hi) hf fp_N_ring (fun _ => rfl) (fun _ => rfl) (Nat.le_of_ble_eq_true rfl) ?_
  rw [sN_ringr hi]
  exact kk
theorem gN_held {i : Nat} {idx : Nat} (hd : decode cc pc = .ok (.getfield idx, 3)) (hf : pv_F own idx 1 4) (hi : i < 5) (kk : pv_V l D ty base b cc nL own ret nm R Ex Qf cells slots (pc + 3) L (.long (lN (σ 2 i)) :: st) (memX σ ++ ρ)) : pv_V l D ty base b cc nL own ret nm R Ex Qf cells slots pc L (.ref (pN i + 1) :: st) (memX σ ++ ρ) := pv_get hd (gx_N hi) hf rfl kk
theorem sN_held {i : Nat} {v : Nat} (hi : i < 5) : (memX σ ++ ρ).set (pN i) (.inr (1, (xNf σ i).set 4 (.long (lN v)))) = memX (sU σ 2 i v) ++ ρ := match i, hi with
  | 0, _ => rfl
  | 1, _ => rfl
  | 2, _ => rfl
  | 3, _ => rfl
  | 4, _ => rfl
  | k + 5, h => absurd h (by omega)
theorem pN_held {i : Nat} {v : Nat} {idx : Nat} (hd : decode cc pc = .ok (.putfield idx, 3)) (hf : pv_F own idx 1 4) (hi : i < 5) (kk : pv_V l D ty base b cc nL own ret nm R Ex Qf cells slots (pc + 3) L st (memX (sU σ 2 i v) ++ ρ)) : pv_V l D ty base b cc nL own ret nm R Ex Qf cells slots pc L (.long (lN v) :: .ref (pN i + 1) :: st) (memX σ ++ ρ) := by
  refine pv_put hd (gx_N hi) hf fp_N_held (fun _ => rfl) (fun _ => rfl) (Nat.le_of_ble_eq_true rfl) ?_
  rw [sN_held hi]
  exact kk
theorem gN_queued {i : Nat} {idx : Nat} (hd : decode cc pc = .ok (.getfield idx, 3)) (hf : pv_F own idx 1 5) (hi : i < 5) (kk : pv_V l D ty base b cc nL own ret nm R Ex Qf cells slots (pc + 3) L (.int (nI (σ 3 i)) :: st) (memX σ ++ ρ)) : pv_V l D ty base b cc nL own ret nm R Ex Qf cells slots pc L (.ref (pN i + 1) :: st) (memX σ ++ ρ) := pv_get hd (gx_N hi) hf rfl kk
theorem sN_queued {i : Nat} {v : Nat} (hi : i < 5) : (memX σ ++ ρ).set (pN i) (.inr (1, (xNf σ i).set 5 (.int (nI v)))) = memX (sU σ 3 i v) ++ ρ := match i, hi with
  | 0, _ => rfl
  | 1, _ => rfl
  | 2, _ => rfl
  | 3, _ => rfl
  | 4, _ => rfl
  | k + 5, h => absurd h (by omega)
theorem pN_queued {i : Nat} {v : Nat} {idx : Nat} (hd : decode cc pc = .ok (.putfield idx, 3)) (hf : pv_F own idx 1 5) (hi : i < 5) (kk : pv_V l D ty base b cc nL own ret nm R Ex Qf cells slots (pc + 3) L st (memX (sU σ 3 i v) ++ ρ)) : pv_V l D ty base b cc nL own ret nm R Ex Qf cells slots pc L (.int (nI v) :: .ref (pN i + 1) :: st) (memX σ ++ ρ) := by
  refine pv_put hd (gx_N hi) hf fp_N_queued (fun _ => rfl) (fun _ => rfl) (Nat.le_of_ble_eq_true rfl) ?_
  rw [sN_queued hi]
  exact kk
theorem gN_logged {i : Nat} {idx : Nat} (hd : decode cc pc = .ok (.getfield idx, 3)) (hf : pv_F own idx 1 6) (hi : i < 5) (kk : pv_V l D ty base b cc nL own ret nm R Ex Qf cells slots (pc + 3) L (.int (nI (σ 4 i)) :: st) (memX σ ++ ρ)) : pv_V l D ty base b cc nL own ret nm R Ex Qf cells slots pc L (.ref (pN i + 1) :: st) (memX σ ++ ρ) := pv_get hd (gx_N hi) hf rfl kk
theorem sN_logged {i : Nat} {v : Nat} (hi : i < 5) : (memX σ ++ ρ).set (pN i) (.inr (1, (xNf σ i).set 6 (.int (nI v)))) = memX (sU σ 4 i v) ++ ρ := match i, hi with
  | 0, _ => rfl
  | 1, _ => rfl
  | 2, _ => rfl
  | 3, _ => rfl
  | 4, _ => rfl
  | k + 5, h => absurd h (by omega)
theorem pN_logged {i : Nat} {v : Nat} {idx : Nat} (hd : decode cc pc = .ok (.putfield idx, 3)) (hf : pv_F own idx 1 6) (hi : i < 5) (kk : pv_V l D ty base b cc nL own ret nm R Ex Qf cells slots (pc + 3) L st (memX (sU σ 4 i v) ++ ρ)) : pv_V l D ty base b cc nL own ret nm R Ex Qf cells slots pc L (.int (nI v) :: .ref (pN i + 1) :: st) (memX σ ++ ρ) := by
  refine pv_put hd (gx_N hi) hf fp_N_logged (fun _ => rfl) (fun _ => rfl) (Nat.le_of_ble_eq_true rfl) ?_
  rw [sN_logged hi]
  exact kk
theorem gN_area {i : Nat} {idx : Nat} (hd : decode cc pc = .ok (.getfield idx, 3)) (hf : pv_F own idx 1 7) (hi : i < 5) (kk : pv_V l D ty base b cc nL own ret nm R Ex Qf cells slots (pc + 3) L (.int (nI (σ 5 i)) :: st) (memX σ ++ ρ)) : pv_V l D ty base b cc nL own ret nm R Ex Qf cells slots pc L (.ref (pN i + 1) :: st) (memX σ ++ ρ) := pv_get hd (gx_N hi) hf rfl kk
theorem sN_area {i : Nat} {v : Nat} (hi : i < 5) : (memX σ ++ ρ).set (pN i) (.inr (1, (xNf σ i).set 7 (.int (nI v)))) = memX (sU σ 5 i v) ++ ρ := match i, hi with
  | 0, _ => rfl
  | 1, _ => rfl
  | 2, _ => rfl
  | 3, _ => rfl
  | 4, _ => rfl
  | k + 5, h => absurd h (by omega)
theorem pN_area {i : Nat} {v : Nat} {idx : Nat} (hd : decode cc pc = .ok (.putfield idx, 3)) (hf : pv_F own idx 1 7) (hi : i < 5) (kk : pv_V l D ty base b cc nL own ret nm R Ex Qf cells slots (pc + 3) L st (memX (sU σ 5 i v) ++ ρ)) : pv_V l D ty base b cc nL own ret nm R Ex Qf cells slots pc L (.int (nI v) :: .ref (pN i + 1) :: st) (memX σ ++ ρ) := by
  refine pv_put hd (gx_N hi) hf fp_N_area (fun _ => rfl) (fun _ => rfl) (Nat.le_of_ble_eq_true rfl) ?_
  rw [sN_area hi]
  exact kk
theorem gN_line {i : Nat} {idx : Nat} (hd : decode cc pc = .ok (.getfield idx, 3)) (hf : pv_F own idx 1 8) (hi : i < 5) (kk : pv_V l D ty base b cc nL own ret nm R Ex Qf cells slots (pc + 3) L (.int (nI (σ 6 i)) :: st) (memX σ ++ ρ)) : pv_V l D ty base b cc nL own ret nm R Ex Qf cells slots pc L (.ref (pN i + 1) :: st) (memX σ ++ ρ) := pv_get hd (gx_N hi) hf rfl kk
theorem sN_line {i : Nat} {v : Nat} (hi : i < 5) : (memX σ ++ ρ).set (pN i) (.inr (1, (xNf σ i).set 8 (.int (nI v)))) = memX (sU σ 6 i v) ++ ρ := match i, hi with
  | 0, _ => rfl
  | 1, _ => rfl
  | 2, _ => rfl
  | 3, _ => rfl
  | 4, _ => rfl
  | k + 5, h => absurd h (by omega)
theorem pN_line {i : Nat} {v : Nat} {idx : Nat} (hd : decode cc pc = .ok (.putfield idx, 3)) (hf : pv_F own idx 1 8) (hi : i < 5) (kk : pv_V l D ty base b cc nL own ret nm R Ex Qf cells slots (pc + 3) L st (memX (sU σ 6 i v) ++ ρ)) : pv_V l D ty base b cc nL own ret nm R Ex Qf cells slots pc L (.int (nI v) :: .ref (pN i + 1) :: st) (memX σ ++ ρ) := by
  refine pv_put hd (gx_N hi) hf fp_N_line (fun _ => rfl) (fun _ => rfl) (Nat.le_of_ble_eq_true rfl) ?_
  rw [sN_line hi]
  exact kk
theorem gN_place {i : Nat} {idx : Nat} (hd : decode cc pc = .ok (.getfield idx, 3)) (hf : pv_F own idx 1 9) (hi : i < 5) (kk : pv_V l D ty base b cc nL own ret nm R Ex Qf cells slots (pc + 3) L (.int (nI (σ 7 i)) :: st) (memX σ ++ ρ)) : pv_V l D ty base b cc nL own ret nm R Ex Qf cells slots pc L (.ref (pN i + 1) :: st) (memX σ ++ ρ) := pv_get hd (gx_N hi) hf rfl kk
theorem sN_place {i : Nat} {v : Nat} (hi : i < 5) : (memX σ ++ ρ).set (pN i) (.inr (1, (xNf σ i).set 9 (.int (nI v)))) = memX (sU σ 7 i v) ++ ρ := match i, hi with
  | 0, _ => rfl
  | 1, _ => rfl
  | 2, _ => rfl
  | 3, _ => rfl
  | 4, _ => rfl
  | k + 5, h => absurd h (by omega)
theorem pN_place {i : Nat} {v : Nat} {idx : Nat} (hd : decode cc pc = .ok (.putfield idx, 3)) (hf : pv_F own idx 1 9) (hi : i < 5) (kk : pv_V l D ty base b cc nL own ret nm R Ex Qf cells slots (pc + 3) L st (memX (sU σ 7 i v) ++ ρ)) : pv_V l D ty base b cc nL own ret nm R Ex Qf cells slots pc L (.int (nI v) :: .ref (pN i + 1) :: st) (memX σ ++ ρ) := by
  refine pv_put hd (gx_N hi) hf fp_N_place (fun _ => rfl) (fun _ => rfl) (Nat.le_of_ble_eq_true rfl) ?_
  rw [sN_place hi]
  exact kk
theorem gN_deafness {i : Nat} {idx : Nat} (hd : decode cc pc = .ok (.getfield idx, 3)) (hf : pv_F own idx 1 10) (hi : i < 5) (kk : pv_V l D ty base b cc nL own ret nm R Ex Qf cells slots (pc + 3) L (.int (nI (σ 8 i)) :: st) (memX σ ++ ρ)) : pv_V l D ty base b cc nL own ret nm R Ex Qf cells slots pc L (.ref (pN i + 1) :: st) (memX σ ++ ρ) := pv_get hd (gx_N hi) hf rfl kk
theorem sN_deafness {i : Nat} {v : Nat} (hi : i < 5) : (memX σ ++ ρ).set (pN i) (.inr (1, (xNf σ i).set 10 (.int (nI v)))) = memX (sU σ 8 i v) ++ ρ := match i, hi with
  | 0, _ => rfl
  | 1, _ => rfl
  | 2, _ => rfl
  | 3, _ => rfl
  | 4, _ => rfl
  | k + 5, h => absurd h (by omega)
theorem pN_deafness {i : Nat} {v : Nat} {idx : Nat} (hd : decode cc pc = .ok (.putfield idx, 3)) (hf : pv_F own idx 1 10) (hi : i < 5) (kk : pv_V l D ty base b cc nL own ret nm R Ex Qf cells slots (pc + 3) L st (memX (sU σ 8 i v) ++ ρ)) : pv_V l D ty base b cc nL own ret nm R Ex Qf cells slots pc L (.int (nI v) :: .ref (pN i + 1) :: st) (memX σ ++ ρ) := by
  refine pv_put hd (gx_N hi) hf fp_N_deafness (fun _ => rfl) (fun _ => rfl) (Nat.le_of_ble_eq_true rfl) ?_
  rw [sN_deafness hi]
  exact kk
theorem gN_timer {i : Nat} {idx : Nat} (hd : decode cc pc = .ok (.getfield idx, 3)) (hf : pv_F own idx 1 11) (hi : i < 5) (kk : pv_V l D ty base b cc nL own ret nm R Ex Qf cells slots (pc + 3) L (.int (nI (σ 9 i)) :: st) (memX σ ++ ρ)) : pv_V l D ty base b cc nL own ret nm R Ex Qf cells slots pc L (.ref (pN i + 1) :: st) (memX σ ++ ρ) := pv_get hd (gx_N hi) hf rfl kk
theorem sN_timer {i : Nat} {v : Nat} (hi : i < 5) : (memX σ ++ ρ).set (pN i) (.inr (1, (xNf σ i).set 11 (.int (nI v)))) = memX (sU σ 9 i v) ++ ρ := match i, hi with
  | 0, _ => rfl
  | 1, _ => rfl
  | 2, _ => rfl
  | 3, _ => rfl
  | 4, _ => rfl
  | k + 5, h => absurd h (by omega)
theorem pN_timer {i : Nat} {v : Nat} {idx : Nat} (hd : decode cc pc = .ok (.putfield idx, 3)) (hf : pv_F own idx 1 11) (hi : i < 5) (kk : pv_V l D ty base b cc nL own ret nm R Ex Qf cells slots (pc + 3) L st (memX (sU σ 9 i v) ++ ρ)) : pv_V l D ty base b cc nL own ret nm R Ex Qf cells slots pc L (.int (nI v) :: .ref (pN i + 1) :: st) (memX σ ++ ρ) := by
  refine pv_put hd (gx_N hi) hf fp_N_timer (fun _ => rfl) (fun _ => rfl) (Nat.le_of_ble_eq_true rfl) ?_
  rw [sN_timer hi]
  exact kk
theorem gR_messageAt {i : Nat} {idx : Nat} (hd : decode cc pc = .ok (.getfield idx, 3)) (hf : pv_F own idx 2 0) (hi : i < 6) (kk : pv_V l D ty base b cc nL own ret nm R Ex Qf cells slots (pc + 3) L (.ref (19 + 3 * i + 1) :: st) (memX σ ++ ρ)) : pv_V l D ty base b cc nL own ret nm R Ex Qf cells slots pc L (.ref (pR i + 1) :: st) (memX σ ++ ρ) := pv_get hd (gx_R hi) hf rfl kk
theorem gR_marks {i : Nat} {idx : Nat} (hd : decode cc pc = .ok (.getfield idx, 3)) (hf : pv_F own idx 2 1) (hi : i < 6) (kk : pv_V l D ty base b cc nL own ret nm R Ex Qf cells slots (pc + 3) L (.ref (20 + 3 * i + 1) :: st) (memX σ ++ ρ)) : pv_V l D ty base b cc nL own ret nm R Ex Qf cells slots pc L (.ref (pR i + 1) :: st) (memX σ ++ ρ) := pv_get hd (gx_R hi) hf rfl kk
theorem gR_number {i : Nat} {idx : Nat} (hd : decode cc pc = .ok (.getfield idx, 3)) (hf : pv_F own idx 2 2) (hi : i < 6) (kk : pv_V l D ty base b cc nL own ret nm R Ex Qf cells slots (pc + 3) L (.int (nI (σ 10 i)) :: st) (memX σ ++ ρ)) : pv_V l D ty base b cc nL own ret nm R Ex Qf cells slots pc L (.ref (pR i + 1) :: st) (memX σ ++ ρ) := pv_get hd (gx_R hi) hf rfl kk
theorem sR_number {i : Nat} {v : Nat} (hi : i < 6) : (memX σ ++ ρ).set (pR i) (.inr (2, (xRf σ i).set 2 (.int (nI v)))) = memX (sU σ 10 i v) ++ ρ := match i, hi with
  | 0, _ => rfl
  | 1, _ => rfl
  | 2, _ => rfl
  | 3, _ => rfl
  | 4, _ => rfl
  | 5, _ => rfl
  | k + 6, h => absurd h (by omega)
theorem pR_number {i : Nat} {v : Nat} {idx : Nat} (hd : decode cc pc = .ok (.putfield idx, 3)) (hf : pv_F own idx 2 2) (hi : i < 6) (kk : pv_V l D ty base b cc nL own ret nm R Ex Qf cells slots (pc + 3) L st (memX (sU σ 10 i v) ++ ρ)) : pv_V l D ty base b cc nL own ret nm R Ex Qf cells slots pc L (.int (nI v) :: .ref (pR i + 1) :: st) (memX σ ++ ρ) := by
  refine pv_put hd (gx_R hi) hf fp_R_number (fun _ => rfl) (fun _ => rfl) (Nat.le_of_ble_eq_true rfl) ?_
  rw [sR_number hi]
  exact kk
theorem gR_members {i : Nat} {idx : Nat} (hd : decode cc pc = .ok (.getfield idx, 3)) (hf : pv_F own idx 2 3) (hi : i < 6) (kk : pv_V l D ty base b cc nL own ret nm R Ex Qf cells slots (pc + 3) L (.int (nI (σ 11 i)) :: st) (memX σ ++ ρ)) : pv_V l D ty base b cc nL own ret nm R Ex Qf cells slots pc L (.ref (pR i + 1) :: st) (memX σ ++ ρ) := pv_get hd (gx_R hi) hf rfl kk
theorem sR_members {i : Nat} {v : Nat} (hi : i < 6) : (memX σ ++ ρ).set (pR i) (.inr (2, (xRf σ i).set 3 (.int (nI v)))) = memX (sU σ 11 i v) ++ ρ := match i, hi with
  | 0, _ => rfl
  | 1, _ => rfl
  | 2, _ => rfl
  | 3, _ => rfl
  | 4, _ => rfl
  | 5, _ => rfl
  | k + 6, h => absurd h (by omega)
theorem pR_members {i : Nat} {v : Nat} {idx : Nat} (hd : decode cc pc = .ok (.putfield idx, 3)) (hf : pv_F own idx 2 3) (hi : i < 6) (kk : pv_V l D ty base b cc nL own ret nm R Ex Qf cells slots (pc + 3) L st (memX (sU σ 11 i v) ++ ρ)) : pv_V l D ty base b cc nL own ret nm R Ex Qf cells slots pc L (.int (nI v) :: .ref (pR i + 1) :: st) (memX σ ++ ρ) := by
  refine pv_put hd (gx_R hi) hf fp_R_members (fun _ => rfl) (fun _ => rfl) (Nat.le_of_ble_eq_true rfl) ?_
  rw [sR_members hi]
  exact kk
theorem gR_tokenAt {i : Nat} {idx : Nat} (hd : decode cc pc = .ok (.getfield idx, 3)) (hf : pv_F own idx 2 4) (hi : i < 6) (kk : pv_V l D ty base b cc nL own ret nm R Ex Qf cells slots (pc + 3) L (.int (nI (σ 12 i) - 1) :: st) (memX σ ++ ρ)) : pv_V l D ty base b cc nL own ret nm R Ex Qf cells slots pc L (.ref (pR i + 1) :: st) (memX σ ++ ρ) := pv_get hd (gx_R hi) hf rfl kk
theorem sR_tokenAt {i : Nat} {v : Nat} (hi : i < 6) : (memX σ ++ ρ).set (pR i) (.inr (2, (xRf σ i).set 4 (.int (nI v - 1)))) = memX (sU σ 12 i v) ++ ρ := match i, hi with
  | 0, _ => rfl
  | 1, _ => rfl
  | 2, _ => rfl
  | 3, _ => rfl
  | 4, _ => rfl
  | 5, _ => rfl
  | k + 6, h => absurd h (by omega)
theorem pR_tokenAt {i : Nat} {v : Nat} {idx : Nat} (hd : decode cc pc = .ok (.putfield idx, 3)) (hf : pv_F own idx 2 4) (hi : i < 6) (kk : pv_V l D ty base b cc nL own ret nm R Ex Qf cells slots (pc + 3) L st (memX (sU σ 12 i v) ++ ρ)) : pv_V l D ty base b cc nL own ret nm R Ex Qf cells slots pc L (.int (nI v - 1) :: .ref (pR i + 1) :: st) (memX σ ++ ρ) := by
  refine pv_put hd (gx_R hi) hf fp_R_tokenAt (fun _ => rfl) (fun _ => rfl) (Nat.le_of_ble_eq_true rfl) ?_
  rw [sR_tokenAt hi]
  exact kk
theorem gR_last {i : Nat} {idx : Nat} (hd : decode cc pc = .ok (.getfield idx, 3)) (hf : pv_F own idx 2 5) (hi : i < 6) (kk : pv_V l D ty base b cc nL own ret nm R Ex Qf cells slots (pc + 3) L (.int (nI (σ 13 i)) :: st) (memX σ ++ ρ)) : pv_V l D ty base b cc nL own ret nm R Ex Qf cells slots pc L (.ref (pR i + 1) :: st) (memX σ ++ ρ) := pv_get hd (gx_R hi) hf rfl kk
theorem sR_last {i : Nat} {v : Nat} (hi : i < 6) : (memX σ ++ ρ).set (pR i) (.inr (2, (xRf σ i).set 5 (.int (nI v)))) = memX (sU σ 13 i v) ++ ρ := match i, hi with
  | 0, _ => rfl
  | 1, _ => rfl
  | 2, _ => rfl
  | 3, _ => rfl
  | 4, _ => rfl
  | 5, _ => rfl
  | k + 6, h => absurd h (by omega)
theorem pR_last {i : Nat} {v : Nat} {idx : Nat} (hd : decode cc pc = .ok (.putfield idx, 3)) (hf : pv_F own idx 2 5) (hi : i < 6) (kk : pv_V l D ty base b cc nL own ret nm R Ex Qf cells slots (pc + 3) L st (memX (sU σ 13 i v) ++ ρ)) : pv_V l D ty base b cc nL own ret nm R Ex Qf cells slots pc L (.int (nI v) :: .ref (pR i + 1) :: st) (memX σ ++ ρ) := by
  refine pv_put hd (gx_R hi) hf fp_R_last (fun _ => rfl) (fun _ => rfl) (Nat.le_of_ble_eq_true rfl) ?_
  rw [sR_last hi]
  exact kk
theorem gR_requests {i : Nat} {idx : Nat} (hd : decode cc pc = .ok (.getfield idx, 3)) (hf : pv_F own idx 2 6) (hi : i < 6) (kk : pv_V l D ty base b cc nL own ret nm R Ex Qf cells slots (pc + 3) L (.long (lN (σ 14 i)) :: st) (memX σ ++ ρ)) : pv_V l D ty base b cc nL own ret nm R Ex Qf cells slots pc L (.ref (pR i + 1) :: st) (memX σ ++ ρ) := pv_get hd (gx_R hi) hf rfl kk
theorem sR_requests {i : Nat} {v : Nat} (hi : i < 6) : (memX σ ++ ρ).set (pR i) (.inr (2, (xRf σ i).set 6 (.long (lN v)))) = memX (sU σ 14 i v) ++ ρ := match i, hi with
  | 0, _ => rfl
  | 1, _ => rfl
  | 2, _ => rfl
  | 3, _ => rfl
  | 4, _ => rfl
  | 5, _ => rfl
  | k + 6, h => absurd h (by omega)
theorem pR_requests {i : Nat} {v : Nat} {idx : Nat} (hd : decode cc pc = .ok (.putfield idx, 3)) (hf : pv_F own idx 2 6) (hi : i < 6) (kk : pv_V l D ty base b cc nL own ret nm R Ex Qf cells slots (pc + 3) L st (memX (sU σ 14 i v) ++ ρ)) : pv_V l D ty base b cc nL own ret nm R Ex Qf cells slots pc L (.long (lN v) :: .ref (pR i + 1) :: st) (memX σ ++ ρ) := by
  refine pv_put hd (gx_R hi) hf fp_R_requests (fun _ => rfl) (fun _ => rfl) (Nat.le_of_ble_eq_true rfl) ?_
  rw [sR_requests hi]
  exact kk
theorem gM_origins {idx : Nat} (hd : decode cc pc = .ok (.getfield idx, 3)) (hf : pv_F own idx 0 0) (kk : pv_V l D ty base b cc nL own ret nm R Ex Qf cells slots (pc + 3) L (.ref (37 + 1) :: st) (memX σ ++ ρ)) : pv_V l D ty base b cc nL own ret nm R Ex Qf cells slots pc L (.ref (36 + 1) :: st) (memX σ ++ ρ) := pv_get hd gx_M hf rfl kk
theorem gM_safe {idx : Nat} (hd : decode cc pc = .ok (.getfield idx, 3)) (hf : pv_F own idx 0 1) (kk : pv_V l D ty base b cc nL own ret nm R Ex Qf cells slots (pc + 3) L (.ref (38 + 1) :: st) (memX σ ++ ρ)) : pv_V l D ty base b cc nL own ret nm R Ex Qf cells slots pc L (.ref (36 + 1) :: st) (memX σ ++ ρ) := pv_get hd gx_M hf rfl kk
theorem gM_stamps {idx : Nat} (hd : decode cc pc = .ok (.getfield idx, 3)) (hf : pv_F own idx 0 2) (kk : pv_V l D ty base b cc nL own ret nm R Ex Qf cells slots (pc + 3) L (.ref (39 + 1) :: st) (memX σ ++ ρ)) : pv_V l D ty base b cc nL own ret nm R Ex Qf cells slots pc L (.ref (36 + 1) :: st) (memX σ ++ ρ) := pv_get hd gx_M hf rfl kk
theorem gM_taken {idx : Nat} (hd : decode cc pc = .ok (.getfield idx, 3)) (hf : pv_F own idx 0 3) (kk : pv_V l D ty base b cc nL own ret nm R Ex Qf cells slots (pc + 3) L (.int (nI (σ 15 0)) :: st) (memX σ ++ ρ)) : pv_V l D ty base b cc nL own ret nm R Ex Qf cells slots pc L (.ref (36 + 1) :: st) (memX σ ++ ρ) := pv_get hd gx_M hf rfl kk
theorem sM_taken {v : Nat} : (memX σ ++ ρ).set 36 (.inr (0, (xMf σ 0).set 3 (.int (nI v)))) = memX (sU σ 15 0 v) ++ ρ := rfl
theorem pM_taken {v : Nat} {idx : Nat} (hd : decode cc pc = .ok (.putfield idx, 3)) (hf : pv_F own idx 0 3) (kk : pv_V l D ty base b cc nL own ret nm R Ex Qf cells slots (pc + 3) L st (memX (sU σ 15 0 v) ++ ρ)) : pv_V l D ty base b cc nL own ret nm R Ex Qf cells slots pc L (.int (nI v) :: .ref (36 + 1) :: st) (memX σ ++ ρ) := by
  refine pv_put hd gx_M hf fp_M_taken (fun _ => rfl) (fun _ => rfl) (Nat.le_of_ble_eq_true rfl) ?_
  rw [sM_taken]
  exact kk
theorem gY_up {idx : Nat} (hd : decode cc pc = .ok (.getfield idx, 3)) (hf : pv_F own idx 4 0) (hξ : ξ.length = 40) (kk : pv_V l D ty base b cc nL own ret nm R Ex Qf cells slots (pc + 3) L (.ref (41 + 1) :: st) (ξ ++ memY σ)) : pv_V l D ty base b cc nL own ret nm R Ex Qf cells slots pc L (.ref (40 + 1) :: st) (ξ ++ memY σ) := pv_get hd (gy_Y hξ) hf rfl kk
theorem gY_area {idx : Nat} (hd : decode cc pc = .ok (.getfield idx, 3)) (hf : pv_F own idx 4 1) (hξ : ξ.length = 40) (kk : pv_V l D ty base b cc nL own ret nm R Ex Qf cells slots (pc + 3) L (.ref (42 + 1) :: st) (ξ ++ memY σ)) : pv_V l D ty base b cc nL own ret nm R Ex Qf cells slots pc L (.ref (40 + 1) :: st) (ξ ++ memY σ) := pv_get hd (gy_Y hξ) hf rfl kk
theorem gY_ringOf {idx : Nat} (hd : decode cc pc = .ok (.getfield idx, 3)) (hf : pv_F own idx 4 2) (hξ : ξ.length = 40) (kk : pv_V l D ty base b cc nL own ret nm R Ex Qf cells slots (pc + 3) L (.ref (43 + 1) :: st) (ξ ++ memY σ)) : pv_V l D ty base b cc nL own ret nm R Ex Qf cells slots pc L (.ref (40 + 1) :: st) (ξ ++ memY σ) := pv_get hd (gy_Y hξ) hf rfl kk
theorem gY_lineOf {idx : Nat} (hd : decode cc pc = .ok (.getfield idx, 3)) (hf : pv_F own idx 4 3) (hξ : ξ.length = 40) (kk : pv_V l D ty base b cc nL own ret nm R Ex Qf cells slots (pc + 3) L (.ref (44 + 1) :: st) (ξ ++ memY σ)) : pv_V l D ty base b cc nL own ret nm R Ex Qf cells slots pc L (.ref (40 + 1) :: st) (ξ ++ memY σ) := pv_get hd (gy_Y hξ) hf rfl kk
theorem gY_placeOf {idx : Nat} (hd : decode cc pc = .ok (.getfield idx, 3)) (hf : pv_F own idx 4 4) (hξ : ξ.length = 40) (kk : pv_V l D ty base b cc nL own ret nm R Ex Qf cells slots (pc + 3) L (.ref (45 + 1) :: st) (ξ ++ memY σ)) : pv_V l D ty base b cc nL own ret nm R Ex Qf cells slots pc L (.ref (40 + 1) :: st) (ξ ++ memY σ) := pv_get hd (gy_Y hξ) hf rfl kk
theorem gY_deaf {idx : Nat} (hd : decode cc pc = .ok (.getfield idx, 3)) (hf : pv_F own idx 4 5) (hξ : ξ.length = 40) (kk : pv_V l D ty base b cc nL own ret nm R Ex Qf cells slots (pc + 3) L (.ref (46 + 1) :: st) (ξ ++ memY σ)) : pv_V l D ty base b cc nL own ret nm R Ex Qf cells slots pc L (.ref (40 + 1) :: st) (ξ ++ memY σ) := pv_get hd (gy_Y hξ) hf rfl kk
theorem gY_timer {idx : Nat} (hd : decode cc pc = .ok (.getfield idx, 3)) (hf : pv_F own idx 4 6) (hξ : ξ.length = 40) (kk : pv_V l D ty base b cc nL own ret nm R Ex Qf cells slots (pc + 3) L (.ref (47 + 1) :: st) (ξ ++ memY σ)) : pv_V l D ty base b cc nL own ret nm R Ex Qf cells slots pc L (.ref (40 + 1) :: st) (ξ ++ memY σ) := pv_get hd (gy_Y hξ) hf rfl kk
theorem gY_hold {idx : Nat} (hd : decode cc pc = .ok (.getfield idx, 3)) (hf : pv_F own idx 4 7) (hξ : ξ.length = 40) (kk : pv_V l D ty base b cc nL own ret nm R Ex Qf cells slots (pc + 3) L (.ref (48 + 1) :: st) (ξ ++ memY σ)) : pv_V l D ty base b cc nL own ret nm R Ex Qf cells slots pc L (.ref (40 + 1) :: st) (ξ ++ memY σ) := pv_get hd (gy_Y hξ) hf rfl kk
theorem gY_logs {idx : Nat} (hd : decode cc pc = .ok (.getfield idx, 3)) (hf : pv_F own idx 4 8) (hξ : ξ.length = 40) (kk : pv_V l D ty base b cc nL own ret nm R Ex Qf cells slots (pc + 3) L (.ref (49 + 1) :: st) (ξ ++ memY σ)) : pv_V l D ty base b cc nL own ret nm R Ex Qf cells slots pc L (.ref (40 + 1) :: st) (ξ ++ memY σ) := pv_get hd (gy_Y hξ) hf rfl kk
theorem gY_entries {idx : Nat} (hd : decode cc pc = .ok (.getfield idx, 3)) (hf : pv_F own idx 4 9) (hξ : ξ.length = 40) (kk : pv_V l D ty base b cc nL own ret nm R Ex Qf cells slots (pc + 3) L (.ref (50 + 1) :: st) (ξ ++ memY σ)) : pv_V l D ty base b cc nL own ret nm R Ex Qf cells slots pc L (.ref (40 + 1) :: st) (ξ ++ memY σ) := pv_get hd (gy_Y hξ) hf rfl kk
theorem gY_messages {idx : Nat} (hd : decode cc pc = .ok (.getfield idx, 3)) (hf : pv_F own idx 4 10) (hξ : ξ.length = 40) (kk : pv_V l D ty base b cc nL own ret nm R Ex Qf cells slots (pc + 3) L (.int (nI (σ 10 0)) :: st) (ξ ++ memY σ)) : pv_V l D ty base b cc nL own ret nm R Ex Qf cells slots pc L (.ref (40 + 1) :: st) (ξ ++ memY σ) := pv_get hd (gy_Y hξ) hf rfl kk
theorem sY_messages {v : Nat} (hξ : ξ.length = 40) : (ξ ++ memY σ).set 40 (.inr (4, (xYf σ 0).set 10 (.int (nI v)))) = ξ ++ memY (sU σ 10 0 v) := sy_0 (k := 0) hξ rfl
theorem pY_messages {v : Nat} {idx : Nat} (hd : decode cc pc = .ok (.putfield idx, 3)) (hf : pv_F own idx 4 10) (hξ : ξ.length = 40) (kk : pv_V l D ty base b cc nL own ret nm R Ex Qf cells slots (pc + 3) L st (ξ ++ memY (sU σ 10 0 v))) : pv_V l D ty base b cc nL own ret nm R Ex Qf cells slots pc L (.int (nI v) :: .ref (40 + 1) :: st) (ξ ++ memY σ) := by
  refine pv_put hd (gy_Y hξ) hf fp_Y_messages (fun _ => rfl) (fun _ => rfl) (Nat.le_of_ble_eq_true rfl) ?_
  rw [sY_messages hξ]
  exact kk
theorem gY_origin {idx : Nat} (hd : decode cc pc = .ok (.getfield idx, 3)) (hf : pv_F own idx 4 11) (hξ : ξ.length = 40) (kk : pv_V l D ty base b cc nL own ret nm R Ex Qf cells slots (pc + 3) L (.ref (51 + 1) :: st) (ξ ++ memY σ)) : pv_V l D ty base b cc nL own ret nm R Ex Qf cells slots pc L (.ref (40 + 1) :: st) (ξ ++ memY σ) := pv_get hd (gy_Y hξ) hf rfl kk
theorem gY_isSafe {idx : Nat} (hd : decode cc pc = .ok (.getfield idx, 3)) (hf : pv_F own idx 4 12) (hξ : ξ.length = 40) (kk : pv_V l D ty base b cc nL own ret nm R Ex Qf cells slots (pc + 3) L (.ref (52 + 1) :: st) (ξ ++ memY σ)) : pv_V l D ty base b cc nL own ret nm R Ex Qf cells slots pc L (.ref (40 + 1) :: st) (ξ ++ memY σ) := pv_get hd (gy_Y hξ) hf rfl kk
theorem gY_gone {idx : Nat} (hd : decode cc pc = .ok (.getfield idx, 3)) (hf : pv_F own idx 4 13) (hξ : ξ.length = 40) (kk : pv_V l D ty base b cc nL own ret nm R Ex Qf cells slots (pc + 3) L (.ref (53 + 1) :: st) (ξ ++ memY σ)) : pv_V l D ty base b cc nL own ret nm R Ex Qf cells slots pc L (.ref (40 + 1) :: st) (ξ ++ memY σ) := pv_get hd (gy_Y hξ) hf rfl kk
theorem gY_ringIn {idx : Nat} (hd : decode cc pc = .ok (.getfield idx, 3)) (hf : pv_F own idx 4 14) (hξ : ξ.length = 40) (kk : pv_V l D ty base b cc nL own ret nm R Ex Qf cells slots (pc + 3) L (.ref (54 + 1) :: st) (ξ ++ memY σ)) : pv_V l D ty base b cc nL own ret nm R Ex Qf cells slots pc L (.ref (40 + 1) :: st) (ξ ++ memY σ) := pv_get hd (gy_Y hξ) hf rfl kk
theorem gY_number {idx : Nat} (hd : decode cc pc = .ok (.getfield idx, 3)) (hf : pv_F own idx 4 15) (hξ : ξ.length = 40) (kk : pv_V l D ty base b cc nL own ret nm R Ex Qf cells slots (pc + 3) L (.ref (55 + 1) :: st) (ξ ++ memY σ)) : pv_V l D ty base b cc nL own ret nm R Ex Qf cells slots pc L (.ref (40 + 1) :: st) (ξ ++ memY σ) := pv_get hd (gy_Y hξ) hf rfl kk
theorem gY_rings {idx : Nat} (hd : decode cc pc = .ok (.getfield idx, 3)) (hf : pv_F own idx 4 16) (hξ : ξ.length = 40) (kk : pv_V l D ty base b cc nL own ret nm R Ex Qf cells slots (pc + 3) L (.int (nI (σ 16 0)) :: st) (ξ ++ memY σ)) : pv_V l D ty base b cc nL own ret nm R Ex Qf cells slots pc L (.ref (40 + 1) :: st) (ξ ++ memY σ) := pv_get hd (gy_Y hξ) hf rfl kk
theorem sY_rings {v : Nat} (hξ : ξ.length = 40) : (ξ ++ memY σ).set 40 (.inr (4, (xYf σ 0).set 16 (.int (nI v)))) = ξ ++ memY (sU σ 16 0 v) := sy_0 (k := 0) hξ rfl
theorem pY_rings {v : Nat} {idx : Nat} (hd : decode cc pc = .ok (.putfield idx, 3)) (hf : pv_F own idx 4 16) (hξ : ξ.length = 40) (kk : pv_V l D ty base b cc nL own ret nm R Ex Qf cells slots (pc + 3) L st (ξ ++ memY (sU σ 16 0 v))) : pv_V l D ty base b cc nL own ret nm R Ex Qf cells slots pc L (.int (nI v) :: .ref (40 + 1) :: st) (ξ ++ memY σ) := by
  refine pv_put hd (gy_Y hξ) hf fp_Y_rings (fun _ => rfl) (fun _ => rfl) (Nat.le_of_ble_eq_true rfl) ?_
  rw [sY_rings hξ]
  exact kk
theorem gY_at {idx : Nat} (hd : decode cc pc = .ok (.getfield idx, 3)) (hf : pv_F own idx 4 17) (hξ : ξ.length = 40) (kk : pv_V l D ty base b cc nL own ret nm R Ex Qf cells slots (pc + 3) L (.ref (56 + 1) :: st) (ξ ++ memY σ)) : pv_V l D ty base b cc nL own ret nm R Ex Qf cells slots pc L (.ref (40 + 1) :: st) (ξ ++ memY σ) := pv_get hd (gy_Y hξ) hf rfl kk
theorem gY_latest {idx : Nat} (hd : decode cc pc = .ok (.getfield idx, 3)) (hf : pv_F own idx 4 18) (hξ : ξ.length = 40) (kk : pv_V l D ty base b cc nL own ret nm R Ex Qf cells slots (pc + 3) L (.ref (57 + 1) :: st) (ξ ++ memY σ)) : pv_V l D ty base b cc nL own ret nm R Ex Qf cells slots pc L (.ref (40 + 1) :: st) (ξ ++ memY σ) := pv_get hd (gy_Y hξ) hf rfl kk
theorem gY_memberBits {idx : Nat} (hd : decode cc pc = .ok (.getfield idx, 3)) (hf : pv_F own idx 4 19) (hξ : ξ.length = 40) (kk : pv_V l D ty base b cc nL own ret nm R Ex Qf cells slots (pc + 3) L (.ref (58 + 1) :: st) (ξ ++ memY σ)) : pv_V l D ty base b cc nL own ret nm R Ex Qf cells slots pc L (.ref (40 + 1) :: st) (ξ ++ memY σ) := pv_get hd (gy_Y hξ) hf rfl kk
theorem gY_marks {idx : Nat} (hd : decode cc pc = .ok (.getfield idx, 3)) (hf : pv_F own idx 4 20) (hξ : ξ.length = 40) (kk : pv_V l D ty base b cc nL own ret nm R Ex Qf cells slots (pc + 3) L (.ref (59 + 1) :: st) (ξ ++ memY σ)) : pv_V l D ty base b cc nL own ret nm R Ex Qf cells slots pc L (.ref (40 + 1) :: st) (ξ ++ memY σ) := pv_get hd (gy_Y hξ) hf rfl kk
theorem gY_wanted {idx : Nat} (hd : decode cc pc = .ok (.getfield idx, 3)) (hf : pv_F own idx 4 21) (hξ : ξ.length = 40) (kk : pv_V l D ty base b cc nL own ret nm R Ex Qf cells slots (pc + 3) L (.ref (60 + 1) :: st) (ξ ++ memY σ)) : pv_V l D ty base b cc nL own ret nm R Ex Qf cells slots pc L (.ref (40 + 1) :: st) (ξ ++ memY σ) := pv_get hd (gy_Y hξ) hf rfl kk
theorem nI_upd {f g j v : Nat} : (fun i => nI (sU σ f j v f i)) = upd (fun i => nI (σ f i)) j (nI v) := by
  funext i
  by_cases h : i = j <;> simp [sU, upd, h]
theorem l_queue {i : Nat} {j : Nat} (hd : decode cc pc = .ok (.iaload, 1)) (hi : i < 5) (hj : j < 8) (kk : pv_V l D ty base b cc nL own ret nm R Ex Qf cells slots (pc + 1) L (.int (nI (σ (20 + i) j)) :: st) (memX σ ++ ρ)) : pv_V l D ty base b cc nL own ret nm R Ex Qf cells slots pc L (.int (nI j) :: .ref (3 + 3 * i + 1) :: st) (memX σ ++ ρ) := pv_iald hd (gx_queue hi) hj (by decide) kk
theorem sa_queue {i : Nat} {j v : Nat} (hi : i < 5) : (memX σ ++ ρ).set (3 + 3 * i) (.inl (0, 8, .inl (upd (fun j => nI (σ (20 + i) j)) j (nI v)))) = memX (sU σ (20 + i) j v) ++ ρ := match i, hi with
  | 0, _ => by rw [← nI_upd (g := 0)]; rfl
  | 1, _ => by rw [← nI_upd (g := 0)]; rfl
  | 2, _ => by rw [← nI_upd (g := 0)]; rfl
  | 3, _ => by rw [← nI_upd (g := 0)]; rfl
  | 4, _ => by rw [← nI_upd (g := 0)]; rfl
  | k + 5, h => absurd h (by omega)
theorem s_queue {i : Nat} {j v : Nat} (hd : decode cc pc = .ok (.iastore, 1)) (hi : i < 5) (hj : j < 8) (kk : pv_V l D ty base b cc nL own ret nm R Ex Qf cells slots (pc + 1) L st (memX (sU σ (20 + i) j v) ++ ρ)) : pv_V l D ty base b cc nL own ret nm R Ex Qf cells slots pc L (.int (nI v) :: .int (nI j) :: .ref (3 + 3 * i + 1) :: st) (memX σ ++ ρ) := by
  refine pv_iast hd (gx_queue hi) hj (by decide) ?_
  rw [sa_queue hi]
  exact kk
theorem l_entries {i : Nat} {j : Nat} (hd : decode cc pc = .ok (.iaload, 1)) (hi : i < 5) (hj : j < 48) (kk : pv_V l D ty base b cc nL own ret nm R Ex Qf cells slots (pc + 1) L (.int (nI (σ (30 + i) j)) :: st) (memX σ ++ ρ)) : pv_V l D ty base b cc nL own ret nm R Ex Qf cells slots pc L (.int (nI j) :: .ref (4 + 3 * i + 1) :: st) (memX σ ++ ρ) := pv_iald hd (gx_entries hi) hj (by decide) kk
theorem sa_entries {i : Nat} {j v : Nat} (hi : i < 5) : (memX σ ++ ρ).set (4 + 3 * i) (.inl (0, 48, .inl (upd (fun j => nI (σ (30 + i) j)) j (nI v)))) = memX (sU σ (30 + i) j v) ++ ρ := match i, hi with
  | 0, _ => by rw [← nI_upd (g := 0)]; rfl
  | 1, _ => by rw [← nI_upd (g := 0)]; rfl
  | 2, _ => by rw [← nI_upd (g := 0)]; rfl
  | 3, _ => by rw [← nI_upd (g := 0)]; rfl
  | 4, _ => by rw [← nI_upd (g := 0)]; rfl
  | k + 5, h => absurd h (by omega)
theorem s_entries {i : Nat} {j v : Nat} (hd : decode cc pc = .ok (.iastore, 1)) (hi : i < 5) (hj : j < 48) (kk : pv_V l D ty base b cc nL own ret nm R Ex Qf cells slots (pc + 1) L st (memX (sU σ (30 + i) j v) ++ ρ)) : pv_V l D ty base b cc nL own ret nm R Ex Qf cells slots pc L (.int (nI v) :: .int (nI j) :: .ref (4 + 3 * i + 1) :: st) (memX σ ++ ρ) := by
  refine pv_iast hd (gx_entries hi) hj (by decide) ?_
  rw [sa_entries hi]
  exact kk
theorem l_messageAt {i : Nat} {j : Nat} (hd : decode cc pc = .ok (.iaload, 1)) (hi : i < 6) (hj : j < 49) (kk : pv_V l D ty base b cc nL own ret nm R Ex Qf cells slots (pc + 1) L (.int (nI (σ (40 + i) j)) :: st) (memX σ ++ ρ)) : pv_V l D ty base b cc nL own ret nm R Ex Qf cells slots pc L (.int (nI j) :: .ref (19 + 3 * i + 1) :: st) (memX σ ++ ρ) := pv_iald hd (gx_messageAt hi) hj (by decide) kk
theorem sa_messageAt {i : Nat} {j v : Nat} (hi : i < 6) : (memX σ ++ ρ).set (19 + 3 * i) (.inl (0, 49, .inl (upd (fun j => nI (σ (40 + i) j)) j (nI v)))) = memX (sU σ (40 + i) j v) ++ ρ := match i, hi with
  | 0, _ => by rw [← nI_upd (g := 0)]; rfl
  | 1, _ => by rw [← nI_upd (g := 0)]; rfl
  | 2, _ => by rw [← nI_upd (g := 0)]; rfl
  | 3, _ => by rw [← nI_upd (g := 0)]; rfl
  | 4, _ => by rw [← nI_upd (g := 0)]; rfl
  | 5, _ => by rw [← nI_upd (g := 0)]; rfl
  | k + 6, h => absurd h (by omega)
theorem s_messageAt {i : Nat} {j v : Nat} (hd : decode cc pc = .ok (.iastore, 1)) (hi : i < 6) (hj : j < 49) (kk : pv_V l D ty base b cc nL own ret nm R Ex Qf cells slots (pc + 1) L st (memX (sU σ (40 + i) j v) ++ ρ)) : pv_V l D ty base b cc nL own ret nm R Ex Qf cells slots pc L (.int (nI v) :: .int (nI j) :: .ref (19 + 3 * i + 1) :: st) (memX σ ++ ρ) := by
  refine pv_iast hd (gx_messageAt hi) hj (by decide) ?_
  rw [sa_messageAt hi]
  exact kk
theorem l_marks {i : Nat} {j : Nat} (hd : decode cc pc = .ok (.iaload, 1)) (hi : i < 6) (hj : j < 5) (kk : pv_V l D ty base b cc nL own ret nm R Ex Qf cells slots (pc + 1) L (.int (nI (σ (50 + i) j)) :: st) (memX σ ++ ρ)) : pv_V l D ty base b cc nL own ret nm R Ex Qf cells slots pc L (.int (nI j) :: .ref (20 + 3 * i + 1) :: st) (memX σ ++ ρ) := pv_iald hd (gx_marks hi) hj (by decide) kk
theorem sa_marks {i : Nat} {j v : Nat} (hi : i < 6) : (memX σ ++ ρ).set (20 + 3 * i) (.inl (0, 5, .inl (upd (fun j => nI (σ (50 + i) j)) j (nI v)))) = memX (sU σ (50 + i) j v) ++ ρ := match i, hi with
  | 0, _ => by rw [← nI_upd (g := 0)]; rfl
  | 1, _ => by rw [← nI_upd (g := 0)]; rfl
  | 2, _ => by rw [← nI_upd (g := 0)]; rfl
  | 3, _ => by rw [← nI_upd (g := 0)]; rfl
  | 4, _ => by rw [← nI_upd (g := 0)]; rfl
  | 5, _ => by rw [← nI_upd (g := 0)]; rfl
  | k + 6, h => absurd h (by omega)
theorem s_marks {i : Nat} {j v : Nat} (hd : decode cc pc = .ok (.iastore, 1)) (hi : i < 6) (hj : j < 5) (kk : pv_V l D ty base b cc nL own ret nm R Ex Qf cells slots (pc + 1) L st (memX (sU σ (50 + i) j v) ++ ρ)) : pv_V l D ty base b cc nL own ret nm R Ex Qf cells slots pc L (.int (nI v) :: .int (nI j) :: .ref (20 + 3 * i + 1) :: st) (memX σ ++ ρ) := by
  refine pv_iast hd (gx_marks hi) hj (by decide) ?_
  rw [sa_marks hi]
  exact kk
theorem l_origins {j : Nat} (hd : decode cc pc = .ok (.iaload, 1)) (hj : j < 49) (kk : pv_V l D ty base b cc nL own ret nm R Ex Qf cells slots (pc + 1) L (.int (nI (σ (60) j)) :: st) (memX σ ++ ρ)) : pv_V l D ty base b cc nL own ret nm R Ex Qf cells slots pc L (.int (nI j) :: .ref (37 + 1) :: st) (memX σ ++ ρ) := pv_iald hd gx_origins hj (by decide) kk
theorem sa_origins {j v : Nat} : (memX σ ++ ρ).set (37) (.inl (0, 49, .inl (upd (fun j => nI (σ (60) j)) j (nI v)))) = memX (sU σ (60) j v) ++ ρ := by rw [← nI_upd (g := 0)]; rfl
theorem s_origins {j v : Nat} (hd : decode cc pc = .ok (.iastore, 1)) (hj : j < 49) (kk : pv_V l D ty base b cc nL own ret nm R Ex Qf cells slots (pc + 1) L st (memX (sU σ (60) j v) ++ ρ)) : pv_V l D ty base b cc nL own ret nm R Ex Qf cells slots pc L (.int (nI v) :: .int (nI j) :: .ref (37 + 1) :: st) (memX σ ++ ρ) := by
  refine pv_iast hd gx_origins hj (by decide) ?_
  rw [sa_origins]
  exact kk
theorem l_safe {j : Nat} (hd : decode cc pc = .ok (.baload, 1)) (hj : j < 49) (kk : pv_V l D ty base b cc nL own ret nm R Ex Qf cells slots (pc + 1) L (.int (nI (σ (61) j)) :: st) (memX σ ++ ρ)) : pv_V l D ty base b cc nL own ret nm R Ex Qf cells slots pc L (.int (nI j) :: .ref (38 + 1) :: st) (memX σ ++ ρ) := pv_zald hd gx_safe hj (by decide) kk
theorem sa_safe {j v : Nat} : (memX σ ++ ρ).set (38) (.inl (1, 49, .inl (upd (fun j => nI (σ (61) j)) j (nI v)))) = memX (sU σ (61) j v) ++ ρ := by rw [← nI_upd (g := 0)]; rfl
theorem s_safe {j v : Nat} (hd : decode cc pc = .ok (.bastore, 1)) (hj : j < 49) (hx : vp_nar .boolean (nI v) = nI v) (kk : pv_V l D ty base b cc nL own ret nm R Ex Qf cells slots (pc + 1) L st (memX (sU σ (61) j v) ++ ρ)) : pv_V l D ty base b cc nL own ret nm R Ex Qf cells slots pc L (.int (nI v) :: .int (nI j) :: .ref (38 + 1) :: st) (memX σ ++ ρ) := by
  refine pv_zast hx hd gx_safe hj (by decide) ?_
  rw [sa_safe]
  exact kk
theorem l_stamps {j : Nat} (hd : decode cc pc = .ok (.iaload, 1)) (hj : j < 49) (kk : pv_V l D ty base b cc nL own ret nm R Ex Qf cells slots (pc + 1) L (.int (nI (σ (62) j)) :: st) (memX σ ++ ρ)) : pv_V l D ty base b cc nL own ret nm R Ex Qf cells slots pc L (.int (nI j) :: .ref (39 + 1) :: st) (memX σ ++ ρ) := pv_iald hd gx_stamps hj (by decide) kk
theorem sa_stamps {j v : Nat} : (memX σ ++ ρ).set (39) (.inl (0, 49, .inl (upd (fun j => nI (σ (62) j)) j (nI v)))) = memX (sU σ (62) j v) ++ ρ := by rw [← nI_upd (g := 0)]; rfl
theorem s_stamps {j v : Nat} (hd : decode cc pc = .ok (.iastore, 1)) (hj : j < 49) (kk : pv_V l D ty base b cc nL own ret nm R Ex Qf cells slots (pc + 1) L st (memX (sU σ (62) j v) ++ ρ)) : pv_V l D ty base b cc nL own ret nm R Ex Qf cells slots pc L (.int (nI v) :: .int (nI j) :: .ref (39 + 1) :: st) (memX σ ++ ρ) := by
  refine pv_iast hd gx_stamps hj (by decide) ?_
  rw [sa_stamps]
  exact kk
theorem l_nodes {j : Nat} (hd : decode cc pc = .ok (.aaload, 1)) (hj : j < 5) (kk : pv_V l D ty base b cc nL own ret nm R Ex Qf cells slots (pc + 1) L (.ref (pN j + 1) :: st) (memX σ ++ ρ)) : pv_V l D ty base b cc nL own ret nm R Ex Qf cells slots pc L (.int (nI j) :: .ref (1 + 1) :: st) (memX σ ++ ρ) := pv_aald3 hd gx_Ns hj (by decide) (if_pos hj) kk
theorem l_rings {j : Nat} (hd : decode cc pc = .ok (.aaload, 1)) (hj : j < 6) (kk : pv_V l D ty base b cc nL own ret nm R Ex Qf cells slots (pc + 1) L (.ref (pR j + 1) :: st) (memX σ ++ ρ)) : pv_V l D ty base b cc nL own ret nm R Ex Qf cells slots pc L (.int (nI j) :: .ref (17 + 1) :: st) (memX σ ++ ρ) := pv_aald4 hd gx_Rs hj (by decide) (if_pos hj) kk
theorem n_nodes (hd : decode cc pc = .ok (.arraylength, 1)) (kk : pv_V l D ty base b cc nL own ret nm R Ex Qf cells slots (pc + 1) L (.int (nI 5) :: st) (memX σ ++ ρ)) : pv_V l D ty base b cc nL own ret nm R Ex Qf cells slots pc L (.ref (1 + 1) :: st) (memX σ ++ ρ) := pv_alen hd gx_Ns (fun _ => rfl) kk
theorem n_rings (hd : decode cc pc = .ok (.arraylength, 1)) (kk : pv_V l D ty base b cc nL own ret nm R Ex Qf cells slots (pc + 1) L (.int (nI 6) :: st) (memX σ ++ ρ)) : pv_V l D ty base b cc nL own ret nm R Ex Qf cells slots pc L (.ref (17 + 1) :: st) (memX σ ++ ρ) := pv_alen hd gx_Rs (fun _ => rfl) kk
theorem lN_upd {f g j v : Nat} : (fun i => lN (sU σ f j v f i)) = vp_updL (fun i => lN (σ f i)) j (lN v) := by
  funext i
  by_cases h : i = j <;> simp [sU, vp_updL, h]
theorem mI_upd {f g j v : Nat} : (fun i => nI (sU σ f j v f i) - 1) = upd (fun i => nI (σ f i) - 1) j (nI v - 1) := by
  funext i
  by_cases h : i = j <;> simp [sU, upd, h]
theorem ly_up {j : Nat} (hd : decode cc pc = .ok (.baload, 1)) (hξ : ξ.length = 40) (hj : j < 5) (kk : pv_V l D ty base b cc nL own ret nm R Ex Qf cells slots (pc + 1) L (.int (nI (σ 0 j)) :: st) (ξ ++ memY σ)) : pv_V l D ty base b cc nL own ret nm R Ex Qf cells slots pc L (.int (nI j) :: .ref (41 + 1) :: st) (ξ ++ memY σ) := pv_zald hd (gy_up hξ) hj (by decide) kk
theorem say_up {j v : Nat} (hξ : ξ.length = 40) : (ξ ++ memY σ).set 41 (.inl (1, 5, .inl (upd (fun j => nI (σ 0 j)) j (nI v)))) = ξ ++ memY (sU σ 0 j v) := sy_0 (k := 1) hξ (by rw [← nI_upd (g := 0)]; rfl)
theorem sy_up {j v : Nat} (hd : decode cc pc = .ok (.bastore, 1)) (hξ : ξ.length = 40) (hj : j < 5) (hx : vp_nar .boolean (nI v) = nI v) (kk : pv_V l D ty base b cc nL own ret nm R Ex Qf cells slots (pc + 1) L st (ξ ++ memY (sU σ 0 j v))) : pv_V l D ty base b cc nL own ret nm R Ex Qf cells slots pc L (.int (nI v) :: .int (nI j) :: .ref (41 + 1) :: st) (ξ ++ memY σ) := by
  refine pv_zast hx hd (gy_up hξ) hj (by decide) ?_
  rw [say_up hξ]
  exact kk
theorem ly_area {j : Nat} (hd : decode cc pc = .ok (.iaload, 1)) (hξ : ξ.length = 40) (hj : j < 5) (kk : pv_V l D ty base b cc nL own ret nm R Ex Qf cells slots (pc + 1) L (.int (nI (σ 1 j)) :: st) (ξ ++ memY σ)) : pv_V l D ty base b cc nL own ret nm R Ex Qf cells slots pc L (.int (nI j) :: .ref (42 + 1) :: st) (ξ ++ memY σ) := pv_iald hd (gy_area hξ) hj (by decide) kk
theorem say_area {j v : Nat} (hξ : ξ.length = 40) : (ξ ++ memY σ).set 42 (.inl (0, 5, .inl (upd (fun j => nI (σ 1 j)) j (nI v)))) = ξ ++ memY (sU σ 1 j v) := sy_0 (k := 2) hξ (by rw [← nI_upd (g := 0)]; rfl)
theorem sy_area {j v : Nat} (hd : decode cc pc = .ok (.iastore, 1)) (hξ : ξ.length = 40) (hj : j < 5) (kk : pv_V l D ty base b cc nL own ret nm R Ex Qf cells slots (pc + 1) L st (ξ ++ memY (sU σ 1 j v))) : pv_V l D ty base b cc nL own ret nm R Ex Qf cells slots pc L (.int (nI v) :: .int (nI j) :: .ref (42 + 1) :: st) (ξ ++ memY σ) := by
  refine pv_iast hd (gy_area hξ) hj (by decide) ?_
  rw [say_area hξ]
  exact kk
theorem ly_ringOf {j : Nat} (hd : decode cc pc = .ok (.iaload, 1)) (hξ : ξ.length = 40) (hj : j < 5) (kk : pv_V l D ty base b cc nL own ret nm R Ex Qf cells slots (pc + 1) L (.int (nI (σ 2 j)) :: st) (ξ ++ memY σ)) : pv_V l D ty base b cc nL own ret nm R Ex Qf cells slots pc L (.int (nI j) :: .ref (43 + 1) :: st) (ξ ++ memY σ) := pv_iald hd (gy_ringOf hξ) hj (by decide) kk
theorem say_ringOf {j v : Nat} (hξ : ξ.length = 40) : (ξ ++ memY σ).set 43 (.inl (0, 5, .inl (upd (fun j => nI (σ 2 j)) j (nI v)))) = ξ ++ memY (sU σ 2 j v) := sy_0 (k := 3) hξ (by rw [← nI_upd (g := 0)]; rfl)
theorem sy_ringOf {j v : Nat} (hd : decode cc pc = .ok (.iastore, 1)) (hξ : ξ.length = 40) (hj : j < 5) (kk : pv_V l D ty base b cc nL own ret nm R Ex Qf cells slots (pc + 1) L st (ξ ++ memY (sU σ 2 j v))) : pv_V l D ty base b cc nL own ret nm R Ex Qf cells slots pc L (.int (nI v) :: .int (nI j) :: .ref (43 + 1) :: st) (ξ ++ memY σ) := by
  refine pv_iast hd (gy_ringOf hξ) hj (by decide) ?_
  rw [say_ringOf hξ]
  exact kk
theorem ly_lineOf {j : Nat} (hd : decode cc pc = .ok (.iaload, 1)) (hξ : ξ.length = 40) (hj : j < 5) (kk : pv_V l D ty base b cc nL own ret nm R Ex Qf cells slots (pc + 1) L (.int (nI (σ 3 j)) :: st) (ξ ++ memY σ)) : pv_V l D ty base b cc nL own ret nm R Ex Qf cells slots pc L (.int (nI j) :: .ref (44 + 1) :: st) (ξ ++ memY σ) := pv_iald hd (gy_lineOf hξ) hj (by decide) kk
theorem say_lineOf {j v : Nat} (hξ : ξ.length = 40) : (ξ ++ memY σ).set 44 (.inl (0, 5, .inl (upd (fun j => nI (σ 3 j)) j (nI v)))) = ξ ++ memY (sU σ 3 j v) := sy_0 (k := 4) hξ (by rw [← nI_upd (g := 0)]; rfl)
theorem sy_lineOf {j v : Nat} (hd : decode cc pc = .ok (.iastore, 1)) (hξ : ξ.length = 40) (hj : j < 5) (kk : pv_V l D ty base b cc nL own ret nm R Ex Qf cells slots (pc + 1) L st (ξ ++ memY (sU σ 3 j v))) : pv_V l D ty base b cc nL own ret nm R Ex Qf cells slots pc L (.int (nI v) :: .int (nI j) :: .ref (44 + 1) :: st) (ξ ++ memY σ) := by
  refine pv_iast hd (gy_lineOf hξ) hj (by decide) ?_
  rw [say_lineOf hξ]
  exact kk
theorem ly_placeOf {j : Nat} (hd : decode cc pc = .ok (.iaload, 1)) (hξ : ξ.length = 40) (hj : j < 5) (kk : pv_V l D ty base b cc nL own ret nm R Ex Qf cells slots (pc + 1) L (.int (nI (σ 4 j)) :: st) (ξ ++ memY σ)) : pv_V l D ty base b cc nL own ret nm R Ex Qf cells slots pc L (.int (nI j) :: .ref (45 + 1) :: st) (ξ ++ memY σ) := pv_iald hd (gy_placeOf hξ) hj (by decide) kk
theorem say_placeOf {j v : Nat} (hξ : ξ.length = 40) : (ξ ++ memY σ).set 45 (.inl (0, 5, .inl (upd (fun j => nI (σ 4 j)) j (nI v)))) = ξ ++ memY (sU σ 4 j v) := sy_0 (k := 5) hξ (by rw [← nI_upd (g := 0)]; rfl)
theorem sy_placeOf {j v : Nat} (hd : decode cc pc = .ok (.iastore, 1)) (hξ : ξ.length = 40) (hj : j < 5) (kk : pv_V l D ty base b cc nL own ret nm R Ex Qf cells slots (pc + 1) L st (ξ ++ memY (sU σ 4 j v))) : pv_V l D ty base b cc nL own ret nm R Ex Qf cells slots pc L (.int (nI v) :: .int (nI j) :: .ref (45 + 1) :: st) (ξ ++ memY σ) := by
  refine pv_iast hd (gy_placeOf hξ) hj (by decide) ?_
  rw [say_placeOf hξ]
  exact kk
theorem ly_deaf {j : Nat} (hd : decode cc pc = .ok (.iaload, 1)) (hξ : ξ.length = 40) (hj : j < 5) (kk : pv_V l D ty base b cc nL own ret nm R Ex Qf cells slots (pc + 1) L (.int (nI (σ 5 j)) :: st) (ξ ++ memY σ)) : pv_V l D ty base b cc nL own ret nm R Ex Qf cells slots pc L (.int (nI j) :: .ref (46 + 1) :: st) (ξ ++ memY σ) := pv_iald hd (gy_deaf hξ) hj (by decide) kk
theorem say_deaf {j v : Nat} (hξ : ξ.length = 40) : (ξ ++ memY σ).set 46 (.inl (0, 5, .inl (upd (fun j => nI (σ 5 j)) j (nI v)))) = ξ ++ memY (sU σ 5 j v) := sy_0 (k := 6) hξ (by rw [← nI_upd (g := 0)]; rfl)
theorem sy_deaf {j v : Nat} (hd : decode cc pc = .ok (.iastore, 1)) (hξ : ξ.length = 40) (hj : j < 5) (kk : pv_V l D ty base b cc nL own ret nm R Ex Qf cells slots (pc + 1) L st (ξ ++ memY (sU σ 5 j v))) : pv_V l D ty base b cc nL own ret nm R Ex Qf cells slots pc L (.int (nI v) :: .int (nI j) :: .ref (46 + 1) :: st) (ξ ++ memY σ) := by
  refine pv_iast hd (gy_deaf hξ) hj (by decide) ?_
  rw [say_deaf hξ]
  exact kk
theorem ly_timer {j : Nat} (hd : decode cc pc = .ok (.iaload, 1)) (hξ : ξ.length = 40) (hj : j < 5) (kk : pv_V l D ty base b cc nL own ret nm R Ex Qf cells slots (pc + 1) L (.int (nI (σ 6 j)) :: st) (ξ ++ memY σ)) : pv_V l D ty base b cc nL own ret nm R Ex Qf cells slots pc L (.int (nI j) :: .ref (47 + 1) :: st) (ξ ++ memY σ) := pv_iald hd (gy_timer hξ) hj (by decide) kk
theorem say_timer {j v : Nat} (hξ : ξ.length = 40) : (ξ ++ memY σ).set 47 (.inl (0, 5, .inl (upd (fun j => nI (σ 6 j)) j (nI v)))) = ξ ++ memY (sU σ 6 j v) := sy_0 (k := 7) hξ (by rw [← nI_upd (g := 0)]; rfl)
theorem sy_timer {j v : Nat} (hd : decode cc pc = .ok (.iastore, 1)) (hξ : ξ.length = 40) (hj : j < 5) (kk : pv_V l D ty base b cc nL own ret nm R Ex Qf cells slots (pc + 1) L st (ξ ++ memY (sU σ 6 j v))) : pv_V l D ty base b cc nL own ret nm R Ex Qf cells slots pc L (.int (nI v) :: .int (nI j) :: .ref (47 + 1) :: st) (ξ ++ memY σ) := by
  refine pv_iast hd (gy_timer hξ) hj (by decide) ?_
  rw [say_timer hξ]
  exact kk
theorem ly_hold {j : Nat} (hd : decode cc pc = .ok (.baload, 1)) (hξ : ξ.length = 40) (hj : j < 245) (kk : pv_V l D ty base b cc nL own ret nm R Ex Qf cells slots (pc + 1) L (.int (nI (σ 7 j)) :: st) (ξ ++ memY σ)) : pv_V l D ty base b cc nL own ret nm R Ex Qf cells slots pc L (.int (nI j) :: .ref (48 + 1) :: st) (ξ ++ memY σ) := pv_zald hd (gy_hold hξ) hj (by decide) kk
theorem say_hold {j v : Nat} (hξ : ξ.length = 40) : (ξ ++ memY σ).set 48 (.inl (1, 245, .inl (upd (fun j => nI (σ 7 j)) j (nI v)))) = ξ ++ memY (sU σ 7 j v) := sy_0 (k := 8) hξ (by rw [← nI_upd (g := 0)]; rfl)
theorem sy_hold {j v : Nat} (hd : decode cc pc = .ok (.bastore, 1)) (hξ : ξ.length = 40) (hj : j < 245) (hx : vp_nar .boolean (nI v) = nI v) (kk : pv_V l D ty base b cc nL own ret nm R Ex Qf cells slots (pc + 1) L st (ξ ++ memY (sU σ 7 j v))) : pv_V l D ty base b cc nL own ret nm R Ex Qf cells slots pc L (.int (nI v) :: .int (nI j) :: .ref (48 + 1) :: st) (ξ ++ memY σ) := by
  refine pv_zast hx hd (gy_hold hξ) hj (by decide) ?_
  rw [say_hold hξ]
  exact kk
theorem ly_logs {j : Nat} (hd : decode cc pc = .ok (.iaload, 1)) (hξ : ξ.length = 40) (hj : j < 240) (kk : pv_V l D ty base b cc nL own ret nm R Ex Qf cells slots (pc + 1) L (.int (nI (σ 8 j)) :: st) (ξ ++ memY σ)) : pv_V l D ty base b cc nL own ret nm R Ex Qf cells slots pc L (.int (nI j) :: .ref (49 + 1) :: st) (ξ ++ memY σ) := pv_iald hd (gy_logs hξ) hj (by decide) kk
theorem say_logs {j v : Nat} (hξ : ξ.length = 40) : (ξ ++ memY σ).set 49 (.inl (0, 240, .inl (upd (fun j => nI (σ 8 j)) j (nI v)))) = ξ ++ memY (sU σ 8 j v) := sy_0 (k := 9) hξ (by rw [← nI_upd (g := 0)]; rfl)
theorem sy_logs {j v : Nat} (hd : decode cc pc = .ok (.iastore, 1)) (hξ : ξ.length = 40) (hj : j < 240) (kk : pv_V l D ty base b cc nL own ret nm R Ex Qf cells slots (pc + 1) L st (ξ ++ memY (sU σ 8 j v))) : pv_V l D ty base b cc nL own ret nm R Ex Qf cells slots pc L (.int (nI v) :: .int (nI j) :: .ref (49 + 1) :: st) (ξ ++ memY σ) := by
  refine pv_iast hd (gy_logs hξ) hj (by decide) ?_
  rw [say_logs hξ]
  exact kk
theorem ly_entries {j : Nat} (hd : decode cc pc = .ok (.iaload, 1)) (hξ : ξ.length = 40) (hj : j < 5) (kk : pv_V l D ty base b cc nL own ret nm R Ex Qf cells slots (pc + 1) L (.int (nI (σ 9 j)) :: st) (ξ ++ memY σ)) : pv_V l D ty base b cc nL own ret nm R Ex Qf cells slots pc L (.int (nI j) :: .ref (50 + 1) :: st) (ξ ++ memY σ) := pv_iald hd (gy_entries hξ) hj (by decide) kk
theorem say_entries {j v : Nat} (hξ : ξ.length = 40) : (ξ ++ memY σ).set 50 (.inl (0, 5, .inl (upd (fun j => nI (σ 9 j)) j (nI v)))) = ξ ++ memY (sU σ 9 j v) := sy_0 (k := 10) hξ (by rw [← nI_upd (g := 0)]; rfl)
theorem sy_entries {j v : Nat} (hd : decode cc pc = .ok (.iastore, 1)) (hξ : ξ.length = 40) (hj : j < 5) (kk : pv_V l D ty base b cc nL own ret nm R Ex Qf cells slots (pc + 1) L st (ξ ++ memY (sU σ 9 j v))) : pv_V l D ty base b cc nL own ret nm R Ex Qf cells slots pc L (.int (nI v) :: .int (nI j) :: .ref (50 + 1) :: st) (ξ ++ memY σ) := by
  refine pv_iast hd (gy_entries hξ) hj (by decide) ?_
  rw [say_entries hξ]
  exact kk
theorem ly_origin {j : Nat} (hd : decode cc pc = .ok (.iaload, 1)) (hξ : ξ.length = 40) (hj : j < 49) (kk : pv_V l D ty base b cc nL own ret nm R Ex Qf cells slots (pc + 1) L (.int (nI (σ 11 j)) :: st) (ξ ++ memY σ)) : pv_V l D ty base b cc nL own ret nm R Ex Qf cells slots pc L (.int (nI j) :: .ref (51 + 1) :: st) (ξ ++ memY σ) := pv_iald hd (gy_origin hξ) hj (by decide) kk
theorem say_origin {j v : Nat} (hξ : ξ.length = 40) : (ξ ++ memY σ).set 51 (.inl (0, 49, .inl (upd (fun j => nI (σ 11 j)) j (nI v)))) = ξ ++ memY (sU σ 11 j v) := sy_0 (k := 11) hξ (by rw [← nI_upd (g := 0)]; rfl)
theorem sy_origin {j v : Nat} (hd : decode cc pc = .ok (.iastore, 1)) (hξ : ξ.length = 40) (hj : j < 49) (kk : pv_V l D ty base b cc nL own ret nm R Ex Qf cells slots (pc + 1) L st (ξ ++ memY (sU σ 11 j v))) : pv_V l D ty base b cc nL own ret nm R Ex Qf cells slots pc L (.int (nI v) :: .int (nI j) :: .ref (51 + 1) :: st) (ξ ++ memY σ) := by
  refine pv_iast hd (gy_origin hξ) hj (by decide) ?_
  rw [say_origin hξ]
  exact kk
theorem ly_isSafe {j : Nat} (hd : decode cc pc = .ok (.baload, 1)) (hξ : ξ.length = 40) (hj : j < 49) (kk : pv_V l D ty base b cc nL own ret nm R Ex Qf cells slots (pc + 1) L (.int (nI (σ 12 j)) :: st) (ξ ++ memY σ)) : pv_V l D ty base b cc nL own ret nm R Ex Qf cells slots pc L (.int (nI j) :: .ref (52 + 1) :: st) (ξ ++ memY σ) := pv_zald hd (gy_isSafe hξ) hj (by decide) kk
theorem say_isSafe {j v : Nat} (hξ : ξ.length = 40) : (ξ ++ memY σ).set 52 (.inl (1, 49, .inl (upd (fun j => nI (σ 12 j)) j (nI v)))) = ξ ++ memY (sU σ 12 j v) := sy_0 (k := 12) hξ (by rw [← nI_upd (g := 0)]; rfl)
theorem sy_isSafe {j v : Nat} (hd : decode cc pc = .ok (.bastore, 1)) (hξ : ξ.length = 40) (hj : j < 49) (hx : vp_nar .boolean (nI v) = nI v) (kk : pv_V l D ty base b cc nL own ret nm R Ex Qf cells slots (pc + 1) L st (ξ ++ memY (sU σ 12 j v))) : pv_V l D ty base b cc nL own ret nm R Ex Qf cells slots pc L (.int (nI v) :: .int (nI j) :: .ref (52 + 1) :: st) (ξ ++ memY σ) := by
  refine pv_zast hx hd (gy_isSafe hξ) hj (by decide) ?_
  rw [say_isSafe hξ]
  exact kk
theorem ly_gone {j : Nat} (hd : decode cc pc = .ok (.baload, 1)) (hξ : ξ.length = 40) (hj : j < 49) (kk : pv_V l D ty base b cc nL own ret nm R Ex Qf cells slots (pc + 1) L (.int (nI (σ 13 j)) :: st) (ξ ++ memY σ)) : pv_V l D ty base b cc nL own ret nm R Ex Qf cells slots pc L (.int (nI j) :: .ref (53 + 1) :: st) (ξ ++ memY σ) := pv_zald hd (gy_gone hξ) hj (by decide) kk
theorem say_gone {j v : Nat} (hξ : ξ.length = 40) : (ξ ++ memY σ).set 53 (.inl (1, 49, .inl (upd (fun j => nI (σ 13 j)) j (nI v)))) = ξ ++ memY (sU σ 13 j v) := sy_0 (k := 13) hξ (by rw [← nI_upd (g := 0)]; rfl)
theorem sy_gone {j v : Nat} (hd : decode cc pc = .ok (.bastore, 1)) (hξ : ξ.length = 40) (hj : j < 49) (hx : vp_nar .boolean (nI v) = nI v) (kk : pv_V l D ty base b cc nL own ret nm R Ex Qf cells slots (pc + 1) L st (ξ ++ memY (sU σ 13 j v))) : pv_V l D ty base b cc nL own ret nm R Ex Qf cells slots pc L (.int (nI v) :: .int (nI j) :: .ref (53 + 1) :: st) (ξ ++ memY σ) := by
  refine pv_zast hx hd (gy_gone hξ) hj (by decide) ?_
  rw [say_gone hξ]
  exact kk
theorem ly_ringIn {j : Nat} (hd : decode cc pc = .ok (.iaload, 1)) (hξ : ξ.length = 40) (hj : j < 49) (kk : pv_V l D ty base b cc nL own ret nm R Ex Qf cells slots (pc + 1) L (.int (nI (σ 14 j)) :: st) (ξ ++ memY σ)) : pv_V l D ty base b cc nL own ret nm R Ex Qf cells slots pc L (.int (nI j) :: .ref (54 + 1) :: st) (ξ ++ memY σ) := pv_iald hd (gy_ringIn hξ) hj (by decide) kk
theorem say_ringIn {j v : Nat} (hξ : ξ.length = 40) : (ξ ++ memY σ).set 54 (.inl (0, 49, .inl (upd (fun j => nI (σ 14 j)) j (nI v)))) = ξ ++ memY (sU σ 14 j v) := sy_0 (k := 14) hξ (by rw [← nI_upd (g := 0)]; rfl)
theorem sy_ringIn {j v : Nat} (hd : decode cc pc = .ok (.iastore, 1)) (hξ : ξ.length = 40) (hj : j < 49) (kk : pv_V l D ty base b cc nL own ret nm R Ex Qf cells slots (pc + 1) L st (ξ ++ memY (sU σ 14 j v))) : pv_V l D ty base b cc nL own ret nm R Ex Qf cells slots pc L (.int (nI v) :: .int (nI j) :: .ref (54 + 1) :: st) (ξ ++ memY σ) := by
  refine pv_iast hd (gy_ringIn hξ) hj (by decide) ?_
  rw [say_ringIn hξ]
  exact kk
theorem ly_number {j : Nat} (hd : decode cc pc = .ok (.iaload, 1)) (hξ : ξ.length = 40) (hj : j < 49) (kk : pv_V l D ty base b cc nL own ret nm R Ex Qf cells slots (pc + 1) L (.int (nI (σ 15 j)) :: st) (ξ ++ memY σ)) : pv_V l D ty base b cc nL own ret nm R Ex Qf cells slots pc L (.int (nI j) :: .ref (55 + 1) :: st) (ξ ++ memY σ) := pv_iald hd (gy_number hξ) hj (by decide) kk
theorem say_number {j v : Nat} (hξ : ξ.length = 40) : (ξ ++ memY σ).set 55 (.inl (0, 49, .inl (upd (fun j => nI (σ 15 j)) j (nI v)))) = ξ ++ memY (sU σ 15 j v) := sy_0 (k := 15) hξ (by rw [← nI_upd (g := 0)]; rfl)
theorem sy_number {j v : Nat} (hd : decode cc pc = .ok (.iastore, 1)) (hξ : ξ.length = 40) (hj : j < 49) (kk : pv_V l D ty base b cc nL own ret nm R Ex Qf cells slots (pc + 1) L st (ξ ++ memY (sU σ 15 j v))) : pv_V l D ty base b cc nL own ret nm R Ex Qf cells slots pc L (.int (nI v) :: .int (nI j) :: .ref (55 + 1) :: st) (ξ ++ memY σ) := by
  refine pv_iast hd (gy_number hξ) hj (by decide) ?_
  rw [say_number hξ]
  exact kk
theorem ly_at {j : Nat} (hd : decode cc pc = .ok (.iaload, 1)) (hξ : ξ.length = 40) (hj : j < 520) (kk : pv_V l D ty base b cc nL own ret nm R Ex Qf cells slots (pc + 1) L (.int (nI (σ 17 j) - 1) :: st) (ξ ++ memY σ)) : pv_V l D ty base b cc nL own ret nm R Ex Qf cells slots pc L (.int (nI j) :: .ref (56 + 1) :: st) (ξ ++ memY σ) := pv_iald hd (gy_at hξ) hj (by decide) kk
theorem say_at {j v : Nat} (hξ : ξ.length = 40) : (ξ ++ memY σ).set 56 (.inl (0, 520, .inl (upd (fun j => nI (σ 17 j) - 1) j (nI v - 1)))) = ξ ++ memY (sU σ 17 j v) := sy_0 (k := 16) hξ (by rw [← mI_upd (g := 0)]; rfl)
theorem sy_at {j v : Nat} (hd : decode cc pc = .ok (.iastore, 1)) (hξ : ξ.length = 40) (hj : j < 520) (kk : pv_V l D ty base b cc nL own ret nm R Ex Qf cells slots (pc + 1) L st (ξ ++ memY (sU σ 17 j v))) : pv_V l D ty base b cc nL own ret nm R Ex Qf cells slots pc L (.int (nI v - 1) :: .int (nI j) :: .ref (56 + 1) :: st) (ξ ++ memY σ) := by
  refine pv_iast hd (gy_at hξ) hj (by decide) ?_
  rw [say_at hξ]
  exact kk
theorem ly_latest {j : Nat} (hd : decode cc pc = .ok (.iaload, 1)) (hξ : ξ.length = 40) (hj : j < 520) (kk : pv_V l D ty base b cc nL own ret nm R Ex Qf cells slots (pc + 1) L (.int (nI (σ 18 j)) :: st) (ξ ++ memY σ)) : pv_V l D ty base b cc nL own ret nm R Ex Qf cells slots pc L (.int (nI j) :: .ref (57 + 1) :: st) (ξ ++ memY σ) := pv_iald hd (gy_latest hξ) hj (by decide) kk
theorem say_latest {j v : Nat} (hξ : ξ.length = 40) : (ξ ++ memY σ).set 57 (.inl (0, 520, .inl (upd (fun j => nI (σ 18 j)) j (nI v)))) = ξ ++ memY (sU σ 18 j v) := sy_0 (k := 17) hξ (by rw [← nI_upd (g := 0)]; rfl)
theorem sy_latest {j v : Nat} (hd : decode cc pc = .ok (.iastore, 1)) (hξ : ξ.length = 40) (hj : j < 520) (kk : pv_V l D ty base b cc nL own ret nm R Ex Qf cells slots (pc + 1) L st (ξ ++ memY (sU σ 18 j v))) : pv_V l D ty base b cc nL own ret nm R Ex Qf cells slots pc L (.int (nI v) :: .int (nI j) :: .ref (57 + 1) :: st) (ξ ++ memY σ) := by
  refine pv_iast hd (gy_latest hξ) hj (by decide) ?_
  rw [say_latest hξ]
  exact kk
theorem ly_memberBits {j : Nat} (hd : decode cc pc = .ok (.iaload, 1)) (hξ : ξ.length = 40) (hj : j < 520) (kk : pv_V l D ty base b cc nL own ret nm R Ex Qf cells slots (pc + 1) L (.int (nI (σ 19 j)) :: st) (ξ ++ memY σ)) : pv_V l D ty base b cc nL own ret nm R Ex Qf cells slots pc L (.int (nI j) :: .ref (58 + 1) :: st) (ξ ++ memY σ) := pv_iald hd (gy_memberBits hξ) hj (by decide) kk
theorem say_memberBits {j v : Nat} (hξ : ξ.length = 40) : (ξ ++ memY σ).set 58 (.inl (0, 520, .inl (upd (fun j => nI (σ 19 j)) j (nI v)))) = ξ ++ memY (sU σ 19 j v) := sy_0 (k := 18) hξ (by rw [← nI_upd (g := 0)]; rfl)
theorem sy_memberBits {j v : Nat} (hd : decode cc pc = .ok (.iastore, 1)) (hξ : ξ.length = 40) (hj : j < 520) (kk : pv_V l D ty base b cc nL own ret nm R Ex Qf cells slots (pc + 1) L st (ξ ++ memY (sU σ 19 j v))) : pv_V l D ty base b cc nL own ret nm R Ex Qf cells slots pc L (.int (nI v) :: .int (nI j) :: .ref (58 + 1) :: st) (ξ ++ memY σ) := by
  refine pv_iast hd (gy_memberBits hξ) hj (by decide) ?_
  rw [say_memberBits hξ]
  exact kk
theorem ly_marks {j : Nat} (hd : decode cc pc = .ok (.iaload, 1)) (hξ : ξ.length = 40) (hj : j < 2600) (kk : pv_V l D ty base b cc nL own ret nm R Ex Qf cells slots (pc + 1) L (.int (nI (σ 20 j)) :: st) (ξ ++ memY σ)) : pv_V l D ty base b cc nL own ret nm R Ex Qf cells slots pc L (.int (nI j) :: .ref (59 + 1) :: st) (ξ ++ memY σ) := pv_iald hd (gy_marks hξ) hj (by decide) kk
theorem say_marks {j v : Nat} (hξ : ξ.length = 40) : (ξ ++ memY σ).set 59 (.inl (0, 2600, .inl (upd (fun j => nI (σ 20 j)) j (nI v)))) = ξ ++ memY (sU σ 20 j v) := sy_0 (k := 19) hξ (by rw [← nI_upd (g := 0)]; rfl)
theorem sy_marks {j v : Nat} (hd : decode cc pc = .ok (.iastore, 1)) (hξ : ξ.length = 40) (hj : j < 2600) (kk : pv_V l D ty base b cc nL own ret nm R Ex Qf cells slots (pc + 1) L st (ξ ++ memY (sU σ 20 j v))) : pv_V l D ty base b cc nL own ret nm R Ex Qf cells slots pc L (.int (nI v) :: .int (nI j) :: .ref (59 + 1) :: st) (ξ ++ memY σ) := by
  refine pv_iast hd (gy_marks hξ) hj (by decide) ?_
  rw [say_marks hξ]
  exact kk
theorem ly_wanted {j : Nat} (hd : decode cc pc = .ok (.laload, 1)) (hξ : ξ.length = 40) (hj : j < 520) (kk : pv_V l D ty base b cc nL own ret nm R Ex Qf cells slots (pc + 1) L (.long (lN (σ 21 j)) :: st) (ξ ++ memY σ)) : pv_V l D ty base b cc nL own ret nm R Ex Qf cells slots pc L (.int (nI j) :: .ref (60 + 1) :: st) (ξ ++ memY σ) := pv_lald hd (gy_wanted hξ) hj (by decide) kk
theorem say_wanted {j v : Nat} (hξ : ξ.length = 40) : (ξ ++ memY σ).set 60 (.inl (2, 520, .inr (.inl (vp_updL (fun j => lN (σ 21 j)) j (lN v))))) = ξ ++ memY (sU σ 21 j v) := sy_0 (k := 20) hξ (by rw [← lN_upd (g := 0)]; rfl)
theorem sy_wanted {j v : Nat} (hd : decode cc pc = .ok (.lastore, 1)) (hξ : ξ.length = 40) (hj : j < 520) (kk : pv_V l D ty base b cc nL own ret nm R Ex Qf cells slots (pc + 1) L st (ξ ++ memY (sU σ 21 j v))) : pv_V l D ty base b cc nL own ret nm R Ex Qf cells slots pc L (.long (lN v) :: .int (nI j) :: .ref (60 + 1) :: st) (ξ ++ memY σ) := by
  refine pv_last hd (gy_wanted hξ) hj (by decide) ?_
  rw [say_wanted hξ]
  exact kk
end WORLD
