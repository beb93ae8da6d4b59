/-! 08.help: what the walker needs beside: callees' words, null or a ring, tokens -/
section HELP
theorem sb_O_init : pv_SB y_O_init c_O_init 2 none 0 := ⟨wc_O_init, wn_O, by decide +kernel⟩
theorem sb_O_broadcast : pv_SB y_O_broadcast c_O_broadcast 7 none 2 := ⟨wc_O_broadcast, wn_O, by decide +kernel⟩
theorem sb_O_broadcastNew : pv_SB y_O_broadcastNew c_O_broadcastNew 5 (some .int) 2 := ⟨wc_O_broadcastNew, wn_O, by decide +kernel⟩
theorem sb_O_broadcastRequests : pv_SB y_O_broadcastRequests c_O_broadcastRequests 5 (some .int) 2 := ⟨wc_O_broadcastRequests, wn_O, by decide +kernel⟩
theorem sb_O_crash : pv_SB y_O_crash c_O_crash 2 (some .boolean) 1 := ⟨wc_O_crash, wn_O, by decide +kernel⟩
theorem sb_O_deafen : pv_SB y_O_deafen c_O_deafen 3 (some .boolean) 2 := ⟨wc_O_deafen, wn_O, by decide +kernel⟩
theorem sb_O_deliverInRing : pv_SB y_O_deliverInRing c_O_deliverInRing 6 none 1 := ⟨wc_O_deliverInRing, wn_O, by decide +kernel⟩
theorem sb_O_deliverLeftOver : pv_SB y_O_deliverLeftOver c_O_deliverLeftOver 7 none 2 := ⟨wc_O_deliverLeftOver, wn_O, by decide +kernel⟩
theorem sb_O_deliverRegular : pv_SB y_O_deliverRegular c_O_deliverRegular 4 none 2 := ⟨wc_O_deliverRegular, wn_O, by decide +kernel⟩
theorem sb_O_deliverTransitional : pv_SB y_O_deliverTransitional c_O_deliverTransitional 7 none 3 := ⟨wc_O_deliverTransitional, wn_O, by decide +kernel⟩
theorem sb_O_delivered : pv_SB y_O_delivered c_O_delivered 2 (some .int) 1 := ⟨wc_O_delivered, wn_O, by decide +kernel⟩
theorem sb_O_drop : pv_SB y_O_drop c_O_drop 3 (some .boolean) 1 := ⟨wc_O_drop, wn_O, by decide +kernel⟩
theorem sb_O_enterNewRing : pv_SB y_O_enterNewRing c_O_enterNewRing 4 none 1 := ⟨wc_O_enterNewRing, wn_O, by decide +kernel⟩
theorem sb_O_formAnew : pv_SB y_O_formAnew c_O_formAnew 8 none 1 := ⟨wc_O_formAnew, wn_O, by decide +kernel⟩
theorem sb_O_hasStranger : pv_SB y_O_hasStranger c_O_hasStranger 6 (some .boolean) 1 := ⟨wc_O_hasStranger, wn_O, by decide +kernel⟩
theorem sb_O_hearEachOther : pv_SB y_O_hearEachOther c_O_hearEachOther 2 (some .boolean) 2 := ⟨wc_O_hearEachOther, wn_O, by decide +kernel⟩
theorem sb_O_isDeliverable : pv_SB y_O_isDeliverable c_O_isDeliverable 4 (some .boolean) 3 := ⟨wc_O_isDeliverable, wn_O, by decide +kernel⟩
theorem sb_O_isIn : pv_SB y_O_isIn c_O_isIn 2 (some .boolean) 2 := ⟨wc_O_isIn, wn_O, by decide +kernel⟩
theorem sb_O_isNode : pv_SB y_O_isNode c_O_isNode 1 (some .boolean) 1 := ⟨wc_O_isNode, wn_O, by decide +kernel⟩
theorem sb_O_isUpNode : pv_SB y_O_isUpNode c_O_isUpNode 2 (some .boolean) 1 := ⟨wc_O_isUpNode, wn_O, by decide +kernel⟩
theorem sb_O_last : pv_SB y_O_last c_O_last 3 (some .int) 1 := ⟨wc_O_last, wn_O, by decide +kernel⟩
theorem sb_O_line : pv_SB y_O_line c_O_line 3 (some .int) 1 := ⟨wc_O_line, wn_O, by decide +kernel⟩
theorem sb_O_log : pv_SB y_O_log c_O_log 4 (some .int) 2 := ⟨wc_O_log, wn_O, by decide +kernel⟩
theorem sb_O_members : pv_SB y_O_members c_O_members 3 (some .int) 1 := ⟨wc_O_members, wn_O, by decide +kernel⟩
theorem sb_O_nodesOf : pv_SB y_O_nodesOf c_O_nodesOf 4 (some .int) 1 := ⟨wc_O_nodesOf, wn_O, by decide +kernel⟩
theorem sb_O_passToken : pv_SB y_O_passToken c_O_passToken 4 none 2 := ⟨wc_O_passToken, wn_O, by decide +kernel⟩
theorem sb_O_place : pv_SB y_O_place c_O_place 3 (some .boolean) 2 := ⟨wc_O_place, wn_O, by decide +kernel⟩
theorem sb_O_reach : pv_SB y_O_reach c_O_reach 3 (some .int) 1 := ⟨wc_O_reach, wn_O, by decide +kernel⟩
theorem sb_O_requests : pv_SB y_O_requests c_O_requests 3 (some .int) 1 := ⟨wc_O_requests, wn_O, by decide +kernel⟩
theorem sb_O_restart : pv_SB y_O_restart c_O_restart 2 (some .boolean) 1 := ⟨wc_O_restart, wn_O, by decide +kernel⟩
theorem sb_O_ring : pv_SB y_O_ring c_O_ring 3 (some .int) 1 := ⟨wc_O_ring, wn_O, by decide +kernel⟩
theorem sb_O_send : pv_SB y_O_send c_O_send 5 (some .int) 2 := ⟨wc_O_send, wn_O, by decide +kernel⟩
theorem sb_O_stamp : pv_SB y_O_stamp c_O_stamp 2 (some .int) 1 := ⟨wc_O_stamp, wn_O, by decide +kernel⟩
theorem sb_O_tick : pv_SB y_O_tick c_O_tick 3 (some .int) 1 := ⟨wc_O_tick, wn_O, by decide +kernel⟩
theorem sb_O_token : pv_SB y_O_token c_O_token 3 (some .int) 1 := ⟨wc_O_token, wn_O, by decide +kernel⟩
theorem sb_O_unusedRing : pv_SB y_O_unusedRing c_O_unusedRing 2 (some (.object "RotatingTokenGroup$Ring")) 0 := ⟨wc_O_unusedRing, wn_O, by decide +kernel⟩
theorem sb_O_upNodesIn : pv_SB y_O_upNodesIn c_O_upNodesIn 4 (some .int) 1 := ⟨wc_O_upNodesIn, wn_O, by decide +kernel⟩
theorem sb_O_visit : pv_SB y_O_visit c_O_visit 6 (some .int) 1 := ⟨wc_O_visit, wn_O, by decide +kernel⟩
theorem sb_O_waiting : pv_SB y_O_waiting c_O_waiting 3 (some .int) 1 := ⟨wc_O_waiting, wn_O, by decide +kernel⟩
theorem sb_M_init : pv_SB y_M_init c_M_init 1 none 0 := ⟨wc_M_init, wn_M, by decide +kernel⟩
theorem sb_M_take : pv_SB y_M_take c_M_take 3 (some .int) 2 := ⟨wc_M_take, wn_M, by decide +kernel⟩
theorem sb_N_init : pv_SB y_N_init c_N_init 2 none 1 := ⟨wc_N_init, wn_N, by decide +kernel⟩
theorem sb_N_append : pv_SB y_N_append c_N_append 2 none 1 := ⟨wc_N_append, wn_N, by decide +kernel⟩
theorem sb_N_dequeue : pv_SB y_N_dequeue c_N_dequeue 3 (some .int) 0 := ⟨wc_N_dequeue, wn_N, by decide +kernel⟩
theorem sb_N_enqueue : pv_SB y_N_enqueue c_N_enqueue 2 none 1 := ⟨wc_N_enqueue, wn_N, by decide +kernel⟩
theorem sb_N_enter : pv_SB y_N_enter c_N_enter 2 none 1 := ⟨wc_N_enter, wn_N, by decide +kernel⟩
theorem sb_N_goDown : pv_SB y_N_goDown c_N_goDown 1 none 0 := ⟨wc_N_goDown, wn_N, by decide +kernel⟩
theorem sb_N_heldWithoutGap : pv_SB y_N_heldWithoutGap c_N_heldWithoutGap 2 (some .int) 0 := ⟨wc_N_heldWithoutGap, wn_N, by decide +kernel⟩
theorem sb_N_hold : pv_SB y_N_hold c_N_hold 2 none 1 := ⟨wc_N_hold, wn_N, by decide +kernel⟩
theorem sb_N_holds : pv_SB y_N_holds c_N_holds 2 (some .boolean) 1 := ⟨wc_N_holds, wn_N, by decide +kernel⟩
theorem sb_N_isUp : pv_SB y_N_isUp c_N_isUp 1 (some .boolean) 0 := ⟨wc_N_isUp, wn_N, by decide +kernel⟩
theorem sb_N_leaveRing : pv_SB y_N_leaveRing c_N_leaveRing 1 none 0 := ⟨wc_N_leaveRing, wn_N, by decide +kernel⟩
theorem sb_N_receive : pv_SB y_N_receive c_N_receive 2 none 1 := ⟨wc_N_receive, wn_N, by decide +kernel⟩
theorem sb_R_init : pv_SB y_R_init c_R_init 1 none 0 := ⟨wc_R_init, wn_R, by decide +kernel⟩
theorem sb_R_form : pv_SB y_R_form c_R_form 4 none 2 := ⟨wc_R_form, wn_R, by decide +kernel⟩
theorem sb_R_isRequested : pv_SB y_R_isRequested c_R_isRequested 2 (some .boolean) 1 := ⟨wc_R_isRequested, wn_R, by decide +kernel⟩
theorem sb_R_isTokenLost : pv_SB y_R_isTokenLost c_R_isTokenLost 1 (some .boolean) 0 := ⟨wc_R_isTokenLost, wn_R, by decide +kernel⟩
theorem sb_R_leastMark : pv_SB y_R_leastMark c_R_leastMark 3 (some .int) 0 := ⟨wc_R_leastMark, wn_R, by decide +kernel⟩
theorem sb_R_markAndRequest : pv_SB y_R_markAndRequest c_R_markAndRequest 3 none 1 := ⟨wc_R_markAndRequest, wn_R, by decide +kernel⟩
theorem sb_R_memberAfter : pv_SB y_R_memberAfter c_R_memberAfter 4 (some .int) 1 := ⟨wc_R_memberAfter, wn_R, by decide +kernel⟩
theorem sb_R_takeOffRequest : pv_SB y_R_takeOffRequest c_R_takeOffRequest 2 none 1 := ⟨wc_R_takeOffRequest, wn_R, by decide +kernel⟩
theorem sb_Y_init : pv_SB y_Y_init c_Y_init 2 none 0 := ⟨wc_Y_init, wn_Y, by decide +kernel⟩
theorem sb_Y_append : pv_SB y_Y_append c_Y_append 3 none 2 := ⟨wc_Y_append, wn_Y, by decide +kernel⟩
theorem sb_Y_broadcast : pv_SB y_Y_broadcast c_Y_broadcast 4 none 2 := ⟨wc_Y_broadcast, wn_Y, by decide +kernel⟩
theorem sb_Y_clean : pv_SB y_Y_clean c_Y_clean 3 none 1 := ⟨wc_Y_clean, wn_Y, by decide +kernel⟩
theorem sb_Y_crash : pv_SB y_Y_crash c_Y_crash 4 (some .boolean) 1 := ⟨wc_Y_crash, wn_Y, by decide +kernel⟩
theorem sb_Y_deafen : pv_SB y_Y_deafen c_Y_deafen 3 (some .boolean) 2 := ⟨wc_Y_deafen, wn_Y, by decide +kernel⟩
theorem sb_Y_deliver : pv_SB y_Y_deliver c_Y_deliver 6 none 1 := ⟨wc_Y_deliver, wn_Y, by decide +kernel⟩
theorem sb_Y_delivered : pv_SB y_Y_delivered c_Y_delivered 2 (some .int) 1 := ⟨wc_Y_delivered, wn_Y, by decide +kernel⟩
theorem sb_Y_drop : pv_SB y_Y_drop c_Y_drop 2 (some .boolean) 1 := ⟨wc_Y_drop, wn_Y, by decide +kernel⟩
theorem sb_Y_enter : pv_SB y_Y_enter c_Y_enter 3 none 1 := ⟨wc_Y_enter, wn_Y, by decide +kernel⟩
theorem sb_Y_finish : pv_SB y_Y_finish c_Y_finish 7 none 2 := ⟨wc_Y_finish, wn_Y, by decide +kernel⟩
theorem sb_Y_first : pv_SB y_Y_first c_Y_first 3 (some .int) 1 := ⟨wc_Y_first, wn_Y, by decide +kernel⟩
theorem sb_Y_form : pv_SB y_Y_form c_Y_form 7 none 1 := ⟨wc_Y_form, wn_Y, by decide +kernel⟩
theorem sb_Y_has : pv_SB y_Y_has c_Y_has 4 (some .boolean) 2 := ⟨wc_Y_has, wn_Y, by decide +kernel⟩
theorem sb_Y_hears : pv_SB y_Y_hears c_Y_hears 3 (some .boolean) 2 := ⟨wc_Y_hears, wn_Y, by decide +kernel⟩
theorem sb_Y_last : pv_SB y_Y_last c_Y_last 3 (some .int) 1 := ⟨wc_Y_last, wn_Y, by decide +kernel⟩
theorem sb_Y_line : pv_SB y_Y_line c_Y_line 3 (some .int) 1 := ⟨wc_Y_line, wn_Y, by decide +kernel⟩
theorem sb_Y_log : pv_SB y_Y_log c_Y_log 3 (some .int) 2 := ⟨wc_Y_log, wn_Y, by decide +kernel⟩
theorem sb_Y_members : pv_SB y_Y_members c_Y_members 3 (some .int) 1 := ⟨wc_Y_members, wn_Y, by decide +kernel⟩
theorem sb_Y_message : pv_SB y_Y_message c_Y_message 4 (some .int) 2 := ⟨wc_Y_message, wn_Y, by decide +kernel⟩
theorem sb_Y_newRing : pv_SB y_Y_newRing c_Y_newRing 3 none 2 := ⟨wc_Y_newRing, wn_Y, by decide +kernel⟩
theorem sb_Y_outside : pv_SB y_Y_outside c_Y_outside 1 (some .boolean) 1 := ⟨wc_Y_outside, wn_Y, by decide +kernel⟩
theorem sb_Y_passOn : pv_SB y_Y_passOn c_Y_passOn 6 none 2 := ⟨wc_Y_passOn, wn_Y, by decide +kernel⟩
theorem sb_Y_place : pv_SB y_Y_place c_Y_place 3 (some .boolean) 2 := ⟨wc_Y_place, wn_Y, by decide +kernel⟩
theorem sb_Y_queued : pv_SB y_Y_queued c_Y_queued 4 (some .int) 1 := ⟨wc_Y_queued, wn_Y, by decide +kernel⟩
theorem sb_Y_reach : pv_SB y_Y_reach c_Y_reach 3 (some .int) 1 := ⟨wc_Y_reach, wn_Y, by decide +kernel⟩
theorem sb_Y_reachOf : pv_SB y_Y_reachOf c_Y_reachOf 3 (some .int) 1 := ⟨wc_Y_reachOf, wn_Y, by decide +kernel⟩
theorem sb_Y_refuse : pv_SB y_Y_refuse c_Y_refuse 2 (some .int) 1 := ⟨wc_Y_refuse, wn_Y, by decide +kernel⟩
theorem sb_Y_requests : pv_SB y_Y_requests c_Y_requests 6 (some .int) 1 := ⟨wc_Y_requests, wn_Y, by decide +kernel⟩
theorem sb_Y_restart : pv_SB y_Y_restart c_Y_restart 2 (some .boolean) 1 := ⟨wc_Y_restart, wn_Y, by decide +kernel⟩
theorem sb_Y_ring : pv_SB y_Y_ring c_Y_ring 3 (some .int) 1 := ⟨wc_Y_ring, wn_Y, by decide +kernel⟩
theorem sb_Y_send : pv_SB y_Y_send c_Y_send 4 (some .int) 2 := ⟨wc_Y_send, wn_Y, by decide +kernel⟩
theorem sb_Y_sendAgain : pv_SB y_Y_sendAgain c_Y_sendAgain 7 (some .int) 2 := ⟨wc_Y_sendAgain, wn_Y, by decide +kernel⟩
theorem sb_Y_sendNew : pv_SB y_Y_sendNew c_Y_sendNew 6 (some .int) 2 := ⟨wc_Y_sendNew, wn_Y, by decide +kernel⟩
theorem sb_Y_share : pv_SB y_Y_share c_Y_share 6 none 1 := ⟨wc_Y_share, wn_Y, by decide +kernel⟩
theorem sb_Y_stamp : pv_SB y_Y_stamp c_Y_stamp 2 (some .int) 1 := ⟨wc_Y_stamp, wn_Y, by decide +kernel⟩
theorem sb_Y_stranger : pv_SB y_Y_stranger c_Y_stranger 4 (some .boolean) 1 := ⟨wc_Y_stranger, wn_Y, by decide +kernel⟩
theorem sb_Y_tick : pv_SB y_Y_tick c_Y_tick 3 (some .int) 1 := ⟨wc_Y_tick, wn_Y, by decide +kernel⟩
theorem sb_Y_together : pv_SB y_Y_together c_Y_together 5 (some .int) 2 := ⟨wc_Y_together, wn_Y, by decide +kernel⟩
theorem sb_Y_token : pv_SB y_Y_token c_Y_token 3 (some .int) 1 := ⟨wc_Y_token, wn_Y, by decide +kernel⟩
theorem sb_Y_visit : pv_SB y_Y_visit c_Y_visit 9 (some .int) 1 := ⟨wc_Y_visit, wn_Y, by decide +kernel⟩
theorem sb_Y_waiting : pv_SB y_Y_waiting c_Y_waiting 3 (some .int) 1 := ⟨wc_Y_waiting, wn_Y, by decide +kernel⟩
theorem sb_J_bitCount : pv_SB y_J_bitCount c_J_bitCount 2 (some .int) 1 := ⟨wc_J_bitCount, wn_J, by decide +kernel⟩
variable {l : Launch} {D : va_G} {ty : Nat → ClassId} {base b : Nat} {cc : ByteArray} {nL : Nat} {own : String} {ret : Option FieldType} {nm : String} {R : Room} {Ex : State → Prop} {Qf : List Frame → Array Value → State → State → Prop} {cells slots pc : Nat} {L : List (Option Value)} {st : List Value} {M : List va_E} {σ : Nat → Nat → Nat} {ρ ξ : List va_E}
theorem pv_splitX {x : Nat} (k1 : x = 0 → pv_V l D ty base b cc nL own ret nm R Ex Qf cells slots pc L (.null :: st) M) (k2 : ∀ r, x = r + 1 → pv_V l D ty base b cc nL own ret nm R Ex Qf cells slots pc L (.ref (pR r + 1) :: st) M) : pv_V l D ty base b cc nL own ret nm R Ex Qf cells slots pc L (pv_p (xp x) :: st) M := by
  cases x with
  | zero => exact k1 rfl
  | succ r => exact k2 r rfl
theorem pv_known {x r : Nat} (h : x = r + 1) (k : pv_V l D ty base b cc nL own ret nm R Ex Qf cells slots pc L (.ref (pR r + 1) :: st) M) : pv_V l D ty base b cc nL own ret nm R Ex Qf cells slots pc L (pv_p (xp x) :: st) M := by
  subst h
  exact k
theorem pv_ifnullX {x : Nat} {off : Int} (tgt : Nat) (ht : (pc : Int) + off = (tgt : Int)) (hd : decode cc pc = .ok (.ifnull off, 3)) (k1 : x = 0 → pv_V l D ty base b cc nL own ret nm R Ex Qf cells slots tgt L st M) (k2 : ∀ r, x = r + 1 → pv_V l D ty base b cc nL own ret nm R Ex Qf cells slots (pc + 3) L st M) : pv_V l D ty base b cc nL own ret nm R Ex Qf cells slots pc L (pv_p (xp x) :: st) M :=
  pv_splitX (fun h => pv_ifnullN tgt ht hd (k1 h)) (fun r h => pv_ifnull hd (k2 r h))
theorem pv_ifnonnullX {x : Nat} {off : Int} (tgt : Nat) (ht : (pc : Int) + off = (tgt : Int)) (hd : decode cc pc = .ok (.ifnonnull off, 3)) (k1 : x = 0 → pv_V l D ty base b cc nL own ret nm R Ex Qf cells slots (pc + 3) L st M) (k2 : ∀ r, x = r + 1 → pv_V l D ty base b cc nL own ret nm R Ex Qf cells slots tgt L st M) : pv_V l D ty base b cc nL own ret nm R Ex Qf cells slots pc L (pv_p (xp x) :: st) M :=
  pv_splitX (fun h => pv_ifnonnullN hd (k1 h)) (fun r h => pv_ifnonnull tgt ht hd (k2 r h))
theorem xp_inj {x y : Nat} (h : xp x = xp y) : x = y := by
  cases x <;> cases y <;> simp [xp, pR] at h <;> omega
theorem xp_some {x r : Nat} : xp x = some (pR r) ↔ x = r + 1 := by
  cases x with
  | zero => simp [xp]
  | succ q =>
    simp only [xp, pR, Option.some.injEq]
    omega
theorem pN_inj {x y : Nat} (h : some (pN x) = some (pN y)) : x = y := by
  simp only [pN, Option.some.injEq] at h
  omega
theorem pR_inj {x y : Nat} (h : some (pR x) = some (pR y)) : x = y := by
  simp only [pR, Option.some.injEq] at h
  omega
theorem nar_b {v : Nat} (h : v ≤ 1) : vp_nar .boolean (nI v) = nI v := by
  rcases (show v = 0 ∨ v = 1 by omega) with rfl | rfl <;> decide
theorem nw_b {v : Nat} (h : v ≤ 1) : narrow .boolean (.int (nI v)) = .int (nI v) := by
  rcases (show v = 0 ∨ v = 1 by omega) with rfl | rfl <;> decide
theorem m1_0 : (-1 : Int32) = nI 0 - 1 := by decide
theorem pR_tokenAtM {i idx : Nat} (hd : decode cc pc = .ok (.putfield idx, 3)) (hf : pv_F own idx 2 4) (hi : i < 6) (kk : pv_V l D ty base b cc nL own ret nm R Ex Qf cells slots (pc + 3) L st (memX (sU σ 12 i 0) ++ ρ)) : pv_V l D ty base b cc nL own ret nm R Ex Qf cells slots pc L (.int (-1) :: .ref (pR i + 1) :: st) (memX σ ++ ρ) := by
  rw [m1_0]
  exact pR_tokenAt hd hf hi kk
theorem pR_tokenAtI {i v idx : Nat} (hd : decode cc pc = .ok (.putfield idx, 3)) (hf : pv_F own idx 2 4) (hi : i < 6) (kk : pv_V l D ty base b cc nL own ret nm R Ex Qf cells slots (pc + 3) L st (memX (sU σ 12 i (v + 1)) ++ ρ)) : pv_V l D ty base b cc nL own ret nm R Ex Qf cells slots pc L (.int (nI v) :: .ref (pR i + 1) :: st) (memX σ ++ ρ) := by
  rw [← nI_pred v]
  exact pR_tokenAt hd hf hi kk
theorem sy_atM {j : Nat} (hd : decode cc pc = .ok (.iastore, 1)) (hξ : ξ.length = 40) (hj : j < 520) (kk : pv_V l D ty base b cc nL own ret nm R Ex Qf cells slots (pc + 1) L st (ξ ++ memY (sU σ 17 j 0))) : pv_V l D ty base b cc nL own ret nm R Ex Qf cells slots pc L (.int (-1) :: .int (nI j) :: .ref (56 + 1) :: st) (ξ ++ memY σ) := by
  rw [m1_0]
  exact sy_at hd hξ hj kk
theorem sy_atI {j v : Nat} (hd : decode cc pc = .ok (.iastore, 1)) (hξ : ξ.length = 40) (hj : j < 520) (kk : pv_V l D ty base b cc nL own ret nm R Ex Qf cells slots (pc + 1) L st (ξ ++ memY (sU σ 17 j (v + 1)))) : pv_V l D ty base b cc nL own ret nm R Ex Qf cells slots pc L (.int (nI v) :: .int (nI j) :: .ref (56 + 1) :: st) (ξ ++ memY σ) := by
  rw [← nI_pred v]
  exact sy_at hd hξ hj kk
/-- a token's place, one less: none, or a node -/
theorem tk_eq {t n : Nat} (ht : t < 2 ^ 31) (hn : n < 2 ^ 30) : nI t - 1 = nI n ↔ t = n + 1 := by
  constructor
  · intro h
    have h2 : nI t = nI (n + 1) := by
      rw [nI_succ, ← h]
      exact (Int32.sub_add_cancel _ _).symm
    exact (nI_eq ht (by omega)).mp h2
  · intro h
    rw [h]
    exact nI_pred n
theorem tk_m1 {t : Nat} (ht : t < 2 ^ 31) : nI t - 1 = -1 ↔ t = 0 := by
  constructor
  · intro h
    have h2 : nI t = nI 0 := by
      have := congrArg (· + 1) h
      simp only [Int32.sub_add_cancel] at this
      rw [this]
      decide
    exact (nI_eq ht (by decide)).mp h2
  · intro h
    rw [h]
    decide
theorem pv_l_none {ad : Nat → Nat} {L : List (Option Value)} {i : Nat} {q : Nat × Value} (h : q ∈ pv_l ad 0 (L.set i none)) : q ∈ pv_l ad 0 L := by
  obtain ⟨k, v, h1, h2⟩ := pv_l_of _ _ q h
  subst h2
  by_cases hk : i = k
  · subst hk
    by_cases hl : i < L.length
    · rw [List.getElem?_set_self hl] at h1
      cases h1
    · rw [List.getElem?_eq_none (by rw [List.length_set]; omega)] at h1
      cases h1
  · rw [List.getElem?_set_ne hk] at h1
    exact pv_l_in L 0 k v h1
theorem pv_forget (i : Nat) (k : pv_V l D ty base b cc nL own ret nm R Ex Qf cells slots pc (L.set i none) st M) : pv_V l D ty base b cc nL own ret nm R Ex Qf cells slots pc L st M :=
  fun p e s m args below meth c C H locs ls hl hP hS => k p e s m args below meth c C H locs ls ⟨hl.1, hl.2.1, fun q hq => hl.2.2 q (pv_l_none hq)⟩ hP hS
theorem pv_lst3 {x : Int64} {a0 a1 a2 a3 : Option Value} {t : List (Option Value)} (hd : decode cc pc = .ok (.lstore_n 3, 1)) (hn : pv_n2 (a0 :: a1 :: a2 :: a3 :: none :: t) 3 = true) (hnL : 4 < nL) (k : pv_V l D ty base b cc nL own ret nm R Ex Qf cells slots (pc + 1) (a0 :: a1 :: a2 :: some (.long x) :: none :: t) st M) : pv_V l D ty base b cc nL own ret nm R Ex Qf cells slots pc (a0 :: a1 :: a2 :: a3 :: none :: t) (.long x :: st) M := pv_lstore_n (i := 3) hd rfl hn (by simp) (fun w h => by simp at h) hnL k
theorem pv_lst0 {x : Int64} {a0 : Option Value} {t : List (Option Value)} (hd : decode cc pc = .ok (.lstore_n 0, 1)) (hn : pv_n2 (a0 :: none :: t) 0 = true) (hnL : 1 < nL) (k : pv_V l D ty base b cc nL own ret nm R Ex Qf cells slots (pc + 1) (some (.long x) :: none :: t) st M) : pv_V l D ty base b cc nL own ret nm R Ex Qf cells slots pc (a0 :: none :: t) (.long x :: st) M := pv_lstore_n (i := 0) hd rfl hn (by simp) (fun w h => by simp at h) hnL k
theorem pv_fg0 {a0 : Option Value} {t : List (Option Value)} (k : pv_V l D ty base b cc nL own ret nm R Ex Qf cells slots pc (none :: t) st M) : pv_V l D ty base b cc nL own ret nm R Ex Qf cells slots pc (a0 :: t) st M := pv_forget 0 k
theorem pv_fg1 {a0 a1 : Option Value} {t : List (Option Value)} (k : pv_V l D ty base b cc nL own ret nm R Ex Qf cells slots pc (a0 :: none :: t) st M) : pv_V l D ty base b cc nL own ret nm R Ex Qf cells slots pc (a0 :: a1 :: t) st M := pv_forget 1 k
theorem pv_fg2 {a0 a1 a2 : Option Value} {t : List (Option Value)} (k : pv_V l D ty base b cc nL own ret nm R Ex Qf cells slots pc (a0 :: a1 :: none :: t) st M) : pv_V l D ty base b cc nL own ret nm R Ex Qf cells slots pc (a0 :: a1 :: a2 :: t) st M := pv_forget 2 k
theorem pv_fg3 {a0 a1 a2 a3 : Option Value} {t : List (Option Value)} (k : pv_V l D ty base b cc nL own ret nm R Ex Qf cells slots pc (a0 :: a1 :: a2 :: none :: t) st M) : pv_V l D ty base b cc nL own ret nm R Ex Qf cells slots pc (a0 :: a1 :: a2 :: a3 :: t) st M := pv_forget 3 k
theorem pv_fg4 {a0 a1 a2 a3 a4 : Option Value} {t : List (Option Value)} (k : pv_V l D ty base b cc nL own ret nm R Ex Qf cells slots pc (a0 :: a1 :: a2 :: a3 :: none :: t) st M) : pv_V l D ty base b cc nL own ret nm R Ex Qf cells slots pc (a0 :: a1 :: a2 :: a3 :: a4 :: t) st M := pv_forget 4 k
theorem pv_fg5 {a0 a1 a2 a3 a4 a5 : Option Value} {t : List (Option Value)} (k : pv_V l D ty base b cc nL own ret nm R Ex Qf cells slots pc (a0 :: a1 :: a2 :: a3 :: a4 :: none :: t) st M) : pv_V l D ty base b cc nL own ret nm R Ex Qf cells slots pc (a0 :: a1 :: a2 :: a3 :: a4 :: a5 :: t) st M := pv_forget 5 k
theorem pv_fg6 {a0 a1 a2 a3 a4 a5 a6 : Option Value} {t : List (Option Value)} (k : pv_V l D ty base b cc nL own ret nm R Ex Qf cells slots pc (a0 :: a1 :: a2 :: a3 :: a4 :: a5 :: none :: t) st M) : pv_V l D ty base b cc nL own ret nm R Ex Qf cells slots pc (a0 :: a1 :: a2 :: a3 :: a4 :: a5 :: a6 :: t) st M := pv_forget 6 k
theorem pv_fg7 {a0 a1 a2 a3 a4 a5 a6 a7 : Option Value} {t : List (Option Value)} (k : pv_V l D ty base b cc nL own ret nm R Ex Qf cells slots pc (a0 :: a1 :: a2 :: a3 :: a4 :: a5 :: a6 :: none :: t) st M) : pv_V l D ty base b cc nL own ret nm R Ex Qf cells slots pc (a0 :: a1 :: a2 :: a3 :: a4 :: a5 :: a6 :: a7 :: t) st M := pv_forget 7 k
theorem pv_fg8 {a0 a1 a2 a3 a4 a5 a6 a7 a8 : Option Value} {t : List (Option Value)} (k : pv_V l D ty base b cc nL own ret nm R Ex Qf cells slots pc (a0 :: a1 :: a2 :: a3 :: a4 :: a5 :: a6 :: a7 :: none :: t) st M) : pv_V l D ty base b cc nL own ret nm R Ex Qf cells slots pc (a0 :: a1 :: a2 :: a3 :: a4 :: a5 :: a6 :: a7 :: a8 :: t) st M := pv_forget 8 k
theorem pv_fg9 {a0 a1 a2 a3 a4 a5 a6 a7 a8 a9 : Option Value} {t : List (Option Value)} (k : pv_V l D ty base b cc nL own ret nm R Ex Qf cells slots pc (a0 :: a1 :: a2 :: a3 :: a4 :: a5 :: a6 :: a7 :: a8 :: none :: t) st M) : pv_V l D ty base b cc nL own ret nm R Ex Qf cells slots pc (a0 :: a1 :: a2 :: a3 :: a4 :: a5 :: a6 :: a7 :: a8 :: a9 :: t) st M := pv_forget 9 k
theorem pv_fg10 {a0 a1 a2 a3 a4 a5 a6 a7 a8 a9 a10 : Option Value} {t : List (Option Value)} (k : pv_V l D ty base b cc nL own ret nm R Ex Qf cells slots pc (a0 :: a1 :: a2 :: a3 :: a4 :: a5 :: a6 :: a7 :: a8 :: a9 :: none :: t) st M) : pv_V l D ty base b cc nL own ret nm R Ex Qf cells slots pc (a0 :: a1 :: a2 :: a3 :: a4 :: a5 :: a6 :: a7 :: a8 :: a9 :: a10 :: t) st M := pv_forget 10 k
theorem pv_fg11 {a0 a1 a2 a3 a4 a5 a6 a7 a8 a9 a10 a11 : Option Value} {t : List (Option Value)} (k : pv_V l D ty base b cc nL own ret nm R Ex Qf cells slots pc (a0 :: a1 :: a2 :: a3 :: a4 :: a5 :: a6 :: a7 :: a8 :: a9 :: a10 :: none :: t) st M) : pv_V l D ty base b cc nL own ret nm R Ex Qf cells slots pc (a0 :: a1 :: a2 :: a3 :: a4 :: a5 :: a6 :: a7 :: a8 :: a9 :: a10 :: a11 :: t) st M := pv_forget 11 k
theorem pv_fg12 {a0 a1 a2 a3 a4 a5 a6 a7 a8 a9 a10 a11 a12 : Option Value} {t : List (Option Value)} (k : pv_V l D ty base b cc nL own ret nm R Ex Qf cells slots pc (a0 :: a1 :: a2 :: a3 :: a4 :: a5 :: a6 :: a7 :: a8 :: a9 :: a10 :: a11 :: none :: t) st M) : pv_V l D ty base b cc nL own ret nm R Ex Qf cells slots pc (a0 :: a1 :: a2 :: a3 :: a4 :: a5 :: a6 :: a7 :: a8 :: a9 :: a10 :: a11 :: a12 :: t) st M := pv_forget 12 k
end HELP
