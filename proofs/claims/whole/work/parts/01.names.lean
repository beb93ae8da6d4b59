/-! 01.names: names, words, by program out of the Statement and the listing -/
def R_M : String := "RotatingTokenGroup$Messages"
def R_N : String := "RotatingTokenGroup$Node"
def R_R : String := "RotatingTokenGroup$Ring"
def R_O : String := "RotatingTokenGroup"
def R_Y : String := "RotatingTokenGroupModel"
def R_L : String := "RotatingTokenGroupLaw"
def R_J : String := "java/lang/Long"
def T_M : u_T := fun k => match k with
  | 0 => ("RotatingTokenGroup$Messages", "origins", "[I", true)
  | 1 => ("RotatingTokenGroup$Messages", "safe", "[Z", true)
  | 2 => ("RotatingTokenGroup$Messages", "stamps", "[I", true)
  | _ => ("RotatingTokenGroup$Messages", "taken", "I", false)
def ty_M : Nat → FieldType := fun k => match k with
  | 0 => .array (.int)
  | 1 => .array (.boolean)
  | 2 => .array (.int)
  | _ => .int
theorem nm_M : ∀ a, a < 4 → ∀ b, b < 4 → a ≠ b → (T_M a).2.1 ≠ (T_M b).2.1 := by decide +kernel
theorem ty_M_ok : ∀ k, k < 4 → parseFieldDescriptor (T_M k).2.2.1 = some (ty_M k) := by decide +kernel
def T_N : u_T := fun k => match k with
  | 0 => ("RotatingTokenGroup$Node", "number", "I", true)
  | 1 => ("RotatingTokenGroup$Node", "queue", "[I", true)
  | 2 => ("RotatingTokenGroup$Node", "entries", "[I", true)
  | 3 => ("RotatingTokenGroup$Node", "ring", "LRotatingTokenGroup$Ring;", false)
  | 4 => ("RotatingTokenGroup$Node", "held", "J", false)
  | 5 => ("RotatingTokenGroup$Node", "queued", "I", false)
  | 6 => ("RotatingTokenGroup$Node", "logged", "I", false)
  | 7 => ("RotatingTokenGroup$Node", "area", "I", false)
  | 8 => ("RotatingTokenGroup$Node", "line", "I", false)
  | 9 => ("RotatingTokenGroup$Node", "place", "I", false)
  | 10 => ("RotatingTokenGroup$Node", "deafness", "I", false)
  | _ => ("RotatingTokenGroup$Node", "timer", "I", false)
def ty_N : Nat → FieldType := fun k => match k with
  | 0 => .int
  | 1 => .array (.int)
  | 2 => .array (.int)
  | 3 => .object "RotatingTokenGroup$Ring"
  | 4 => .long
  | 5 => .int
  | 6 => .int
  | 7 => .int
  | 8 => .int
  | 9 => .int
  | 10 => .int
  | _ => .int
theorem nm_N : ∀ a, a < 12 → ∀ b, b < 12 → a ≠ b → (T_N a).2.1 ≠ (T_N b).2.1 := by decide +kernel
theorem ty_N_ok : ∀ k, k < 12 → parseFieldDescriptor (T_N k).2.2.1 = some (ty_N k) := by decide +kernel
def T_R : u_T := fun k => match k with
  | 0 => ("RotatingTokenGroup$Ring", "messageAt", "[I", true)
  | 1 => ("RotatingTokenGroup$Ring", "marks", "[I", true)
  | 2 => ("RotatingTokenGroup$Ring", "number", "I", false)
  | 3 => ("RotatingTokenGroup$Ring", "members", "I", false)
  | 4 => ("RotatingTokenGroup$Ring", "tokenAt", "I", false)
  | 5 => ("RotatingTokenGroup$Ring", "last", "I", false)
  | _ => ("RotatingTokenGroup$Ring", "requests", "J", false)
def ty_R : Nat → FieldType := fun k => match k with
  | 0 => .array (.int)
  | 1 => .array (.int)
  | 2 => .int
  | 3 => .int
  | 4 => .int
  | 5 => .int
  | _ => .long
theorem nm_R : ∀ a, a < 7 → ∀ b, b < 7 → a ≠ b → (T_R a).2.1 ≠ (T_R b).2.1 := by decide +kernel
theorem ty_R_ok : ∀ k, k < 7 → parseFieldDescriptor (T_R k).2.2.1 = some (ty_R k) := by decide +kernel
def T_O : u_T := fun k => match k with
  | 0 => ("RotatingTokenGroup", "nodes", "[LRotatingTokenGroup$Node;", true)
  | 1 => ("RotatingTokenGroup", "rings", "[LRotatingTokenGroup$Ring;", true)
  | 2 => ("RotatingTokenGroup", "messages", "LRotatingTokenGroup$Messages;", true)
  | _ => ("RotatingTokenGroup", "greatestRing", "I", false)
def ty_O : Nat → FieldType := fun k => match k with
  | 0 => .array (.object "RotatingTokenGroup$Node")
  | 1 => .array (.object "RotatingTokenGroup$Ring")
  | 2 => .object "RotatingTokenGroup$Messages"
  | _ => .int
theorem nm_O : ∀ a, a < 4 → ∀ b, b < 4 → a ≠ b → (T_O a).2.1 ≠ (T_O b).2.1 := by decide +kernel
theorem ty_O_ok : ∀ k, k < 4 → parseFieldDescriptor (T_O k).2.2.1 = some (ty_O k) := by decide +kernel
def T_Y : u_T := fun k => match k with
  | 0 => ("RotatingTokenGroupModel", "up", "[Z", true)
  | 1 => ("RotatingTokenGroupModel", "area", "[I", true)
  | 2 => ("RotatingTokenGroupModel", "ringOf", "[I", true)
  | 3 => ("RotatingTokenGroupModel", "lineOf", "[I", true)
  | 4 => ("RotatingTokenGroupModel", "placeOf", "[I", true)
  | 5 => ("RotatingTokenGroupModel", "deaf", "[I", true)
  | 6 => ("RotatingTokenGroupModel", "timer", "[I", true)
  | 7 => ("RotatingTokenGroupModel", "hold", "[Z", true)
  | 8 => ("RotatingTokenGroupModel", "logs", "[I", true)
  | 9 => ("RotatingTokenGroupModel", "entries", "[I", true)
  | 10 => ("RotatingTokenGroupModel", "messages", "I", false)
  | 11 => ("RotatingTokenGroupModel", "origin", "[I", true)
  | 12 => ("RotatingTokenGroupModel", "isSafe", "[Z", true)
  | 13 => ("RotatingTokenGroupModel", "gone", "[Z", true)
  | 14 => ("RotatingTokenGroupModel", "ringIn", "[I", true)
  | 15 => ("RotatingTokenGroupModel", "number", "[I", true)
  | 16 => ("RotatingTokenGroupModel", "rings", "I", false)
  | 17 => ("RotatingTokenGroupModel", "at", "[I", true)
  | 18 => ("RotatingTokenGroupModel", "latest", "[I", true)
  | 19 => ("RotatingTokenGroupModel", "memberBits", "[I", true)
  | 20 => ("RotatingTokenGroupModel", "marks", "[I", true)
  | _ => ("RotatingTokenGroupModel", "wanted", "[J", true)
def ty_Y : Nat → FieldType := fun k => match k with
  | 0 => .array (.boolean)
  | 1 => .array (.int)
  | 2 => .array (.int)
  | 3 => .array (.int)
  | 4 => .array (.int)
  | 5 => .array (.int)
  | 6 => .array (.int)
  | 7 => .array (.boolean)
  | 8 => .array (.int)
  | 9 => .array (.int)
  | 10 => .int
  | 11 => .array (.int)
  | 12 => .array (.boolean)
  | 13 => .array (.boolean)
  | 14 => .array (.int)
  | 15 => .array (.int)
  | 16 => .int
  | 17 => .array (.int)
  | 18 => .array (.int)
  | 19 => .array (.int)
  | 20 => .array (.int)
  | _ => .array (.long)
theorem nm_Y : ∀ a, a < 22 → ∀ b, b < 22 → a ≠ b → (T_Y a).2.1 ≠ (T_Y b).2.1 := by decide +kernel
theorem ty_Y_ok : ∀ k, k < 22 → parseFieldDescriptor (T_Y k).2.2.1 = some (ty_Y k) := by decide +kernel
def pv_cl : List vw_C := [(R_M, T_M, 4), (R_N, T_N, 12), (R_R, T_R, 7), (R_O, T_O, 4), (R_Y, T_Y, 22)]
abbrev c_O_init : ByteArray := prog_1_method_1_code
def y_O_init : MethodName := ⟨R_O, "<init>", "()V"⟩
abbrev c_O_broadcast : ByteArray := prog_1_method_27_code
def y_O_broadcast : MethodName := ⟨R_O, "broadcast", "(LRotatingTokenGroup$Node;I)V"⟩
abbrev c_O_broadcastNew : ByteArray := prog_1_method_26_code
def y_O_broadcastNew : MethodName := ⟨R_O, "broadcastNew", "(LRotatingTokenGroup$Node;LRotatingTokenGroup$Ring;)I"⟩
abbrev c_O_broadcastRequests : ByteArray := prog_1_method_25_code
def y_O_broadcastRequests : MethodName := ⟨R_O, "broadcastRequests", "(LRotatingTokenGroup$Node;LRotatingTokenGroup$Ring;)I"⟩
abbrev c_O_crash : ByteArray := prog_1_method_5_code
def y_O_crash : MethodName := ⟨R_O, "crash", "(I)Z"⟩
abbrev c_O_deafen : ByteArray := prog_1_method_8_code
def y_O_deafen : MethodName := ⟨R_O, "deafen", "(II)Z"⟩
abbrev c_O_deliverInRing : ByteArray := prog_1_method_28_code
def y_O_deliverInRing : MethodName := ⟨R_O, "deliverInRing", "(LRotatingTokenGroup$Ring;)V"⟩
abbrev c_O_deliverLeftOver : ByteArray := prog_1_method_34_code
def y_O_deliverLeftOver : MethodName := ⟨R_O, "deliverLeftOver", "(LRotatingTokenGroup$Ring;I)V"⟩
abbrev c_O_deliverRegular : ByteArray := prog_1_method_29_code
def y_O_deliverRegular : MethodName := ⟨R_O, "deliverRegular", "(LRotatingTokenGroup$Node;LRotatingTokenGroup$Ring;)V"⟩
abbrev c_O_deliverTransitional : ByteArray := prog_1_method_35_code
def y_O_deliverTransitional : MethodName := ⟨R_O, "deliverTransitional", "(LRotatingTokenGroup$Node;LRotatingTokenGroup$Ring;I)V"⟩
abbrev c_O_delivered : ByteArray := prog_1_method_18_code
def y_O_delivered : MethodName := ⟨R_O, "delivered", "(I)I"⟩
abbrev c_O_drop : ByteArray := prog_1_method_9_code
def y_O_drop : MethodName := ⟨R_O, "drop", "(I)Z"⟩
abbrev c_O_enterNewRing : ByteArray := prog_1_method_36_code
def y_O_enterNewRing : MethodName := ⟨R_O, "enterNewRing", "(I)V"⟩
abbrev c_O_formAnew : ByteArray := prog_1_method_33_code
def y_O_formAnew : MethodName := ⟨R_O, "formAnew", "(I)V"⟩
abbrev c_O_hasStranger : ByteArray := prog_1_method_31_code
def y_O_hasStranger : MethodName := ⟨R_O, "hasStranger", "(LRotatingTokenGroup$Node;)Z"⟩
abbrev c_O_hearEachOther : ByteArray := prog_1_method_24_code
def y_O_hearEachOther : MethodName := ⟨R_O, "hearEachOther", "(LRotatingTokenGroup$Node;LRotatingTokenGroup$Node;)Z"⟩
abbrev c_O_isDeliverable : ByteArray := prog_1_method_30_code
def y_O_isDeliverable : MethodName := ⟨R_O, "isDeliverable", "(LRotatingTokenGroup$Node;LRotatingTokenGroup$Ring;I)Z"⟩
abbrev c_O_isIn : ByteArray := prog_1_method_23_code
def y_O_isIn : MethodName := ⟨R_O, "isIn", "(II)Z"⟩
abbrev c_O_isNode : ByteArray := prog_1_method_21_code
def y_O_isNode : MethodName := ⟨R_O, "isNode", "(I)Z"⟩
abbrev c_O_isUpNode : ByteArray := prog_1_method_22_code
def y_O_isUpNode : MethodName := ⟨R_O, "isUpNode", "(I)Z"⟩
abbrev c_O_last : ByteArray := prog_1_method_13_code
def y_O_last : MethodName := ⟨R_O, "last", "(I)I"⟩
abbrev c_O_line : ByteArray := prog_1_method_16_code
def y_O_line : MethodName := ⟨R_O, "line", "(I)I"⟩
abbrev c_O_log : ByteArray := prog_1_method_19_code
def y_O_log : MethodName := ⟨R_O, "log", "(II)I"⟩
abbrev c_O_members : ByteArray := prog_1_method_11_code
def y_O_members : MethodName := ⟨R_O, "members", "(I)I"⟩
abbrev c_O_nodesOf : ByteArray := prog_1_method_38_code
def y_O_nodesOf : MethodName := ⟨R_O, "nodesOf", "(LRotatingTokenGroup$Ring;)I"⟩
abbrev c_O_passToken : ByteArray := prog_1_method_32_code
def y_O_passToken : MethodName := ⟨R_O, "passToken", "(LRotatingTokenGroup$Node;LRotatingTokenGroup$Ring;)V"⟩
abbrev c_O_place : ByteArray := prog_1_method_7_code
def y_O_place : MethodName := ⟨R_O, "place", "(II)Z"⟩
abbrev c_O_reach : ByteArray := prog_1_method_15_code
def y_O_reach : MethodName := ⟨R_O, "reach", "(I)I"⟩
abbrev c_O_requests : ByteArray := prog_1_method_14_code
def y_O_requests : MethodName := ⟨R_O, "requests", "(I)I"⟩
abbrev c_O_restart : ByteArray := prog_1_method_6_code
def y_O_restart : MethodName := ⟨R_O, "restart", "(I)Z"⟩
abbrev c_O_ring : ByteArray := prog_1_method_10_code
def y_O_ring : MethodName := ⟨R_O, "ring", "(I)I"⟩
abbrev c_O_send : ByteArray := prog_1_method_2_code
def y_O_send : MethodName := ⟨R_O, "send", "(IZ)I"⟩
abbrev c_O_stamp : ByteArray := prog_1_method_20_code
def y_O_stamp : MethodName := ⟨R_O, "stamp", "(I)I"⟩
abbrev c_O_tick : ByteArray := prog_1_method_4_code
def y_O_tick : MethodName := ⟨R_O, "tick", "(I)I"⟩
abbrev c_O_token : ByteArray := prog_1_method_12_code
def y_O_token : MethodName := ⟨R_O, "token", "(I)I"⟩
abbrev c_O_unusedRing : ByteArray := prog_1_method_37_code
def y_O_unusedRing : MethodName := ⟨R_O, "unusedRing", "()LRotatingTokenGroup$Ring;"⟩
abbrev c_O_upNodesIn : ByteArray := prog_1_method_39_code
def y_O_upNodesIn : MethodName := ⟨R_O, "upNodesIn", "(I)I"⟩
abbrev c_O_visit : ByteArray := prog_1_method_3_code
def y_O_visit : MethodName := ⟨R_O, "visit", "(I)I"⟩
abbrev c_O_waiting : ByteArray := prog_1_method_17_code
def y_O_waiting : MethodName := ⟨R_O, "waiting", "(I)I"⟩
abbrev c_M_init : ByteArray := prog_2_method_1_code
def y_M_init : MethodName := ⟨R_M, "<init>", "()V"⟩
abbrev c_M_take : ByteArray := prog_2_method_2_code
def y_M_take : MethodName := ⟨R_M, "take", "(IZ)I"⟩
abbrev c_N_init : ByteArray := prog_3_method_1_code
def y_N_init : MethodName := ⟨R_N, "<init>", "(I)V"⟩
abbrev c_N_append : ByteArray := prog_3_method_9_code
def y_N_append : MethodName := ⟨R_N, "append", "(I)V"⟩
abbrev c_N_dequeue : ByteArray := prog_3_method_8_code
def y_N_dequeue : MethodName := ⟨R_N, "dequeue", "()I"⟩
abbrev c_N_enqueue : ByteArray := prog_3_method_7_code
def y_N_enqueue : MethodName := ⟨R_N, "enqueue", "(I)V"⟩
abbrev c_N_enter : ByteArray := prog_3_method_10_code
def y_N_enter : MethodName := ⟨R_N, "enter", "(LRotatingTokenGroup$Ring;)V"⟩
abbrev c_N_goDown : ByteArray := prog_3_method_12_code
def y_N_goDown : MethodName := ⟨R_N, "goDown", "()V"⟩
abbrev c_N_heldWithoutGap : ByteArray := prog_3_method_6_code
def y_N_heldWithoutGap : MethodName := ⟨R_N, "heldWithoutGap", "()I"⟩
abbrev c_N_hold : ByteArray := prog_3_method_4_code
def y_N_hold : MethodName := ⟨R_N, "hold", "(I)V"⟩
abbrev c_N_holds : ByteArray := prog_3_method_3_code
def y_N_holds : MethodName := ⟨R_N, "holds", "(I)Z"⟩
abbrev c_N_isUp : ByteArray := prog_3_method_2_code
def y_N_isUp : MethodName := ⟨R_N, "isUp", "()Z"⟩
abbrev c_N_leaveRing : ByteArray := prog_3_method_11_code
def y_N_leaveRing : MethodName := ⟨R_N, "leaveRing", "()V"⟩
abbrev c_N_receive : ByteArray := prog_3_method_5_code
def y_N_receive : MethodName := ⟨R_N, "receive", "(I)V"⟩
abbrev c_R_init : ByteArray := prog_4_method_1_code
def y_R_init : MethodName := ⟨R_R, "<init>", "()V"⟩
abbrev c_R_form : ByteArray := prog_4_method_2_code
def y_R_form : MethodName := ⟨R_R, "form", "(II)V"⟩
abbrev c_R_isRequested : ByteArray := prog_4_method_4_code
def y_R_isRequested : MethodName := ⟨R_R, "isRequested", "(I)Z"⟩
abbrev c_R_isTokenLost : ByteArray := prog_4_method_3_code
def y_R_isTokenLost : MethodName := ⟨R_R, "isTokenLost", "()Z"⟩
abbrev c_R_leastMark : ByteArray := prog_4_method_7_code
def y_R_leastMark : MethodName := ⟨R_R, "leastMark", "()I"⟩
abbrev c_R_markAndRequest : ByteArray := prog_4_method_6_code
def y_R_markAndRequest : MethodName := ⟨R_R, "markAndRequest", "(LRotatingTokenGroup$Node;)V"⟩
abbrev c_R_memberAfter : ByteArray := prog_4_method_8_code
def y_R_memberAfter : MethodName := ⟨R_R, "memberAfter", "(I)I"⟩
abbrev c_R_takeOffRequest : ByteArray := prog_4_method_5_code
def y_R_takeOffRequest : MethodName := ⟨R_R, "takeOffRequest", "(I)V"⟩
abbrev c_Y_init : ByteArray := prog_6_method_1_code
def y_Y_init : MethodName := ⟨R_Y, "<init>", "()V"⟩
abbrev c_Y_append : ByteArray := prog_6_method_12_code
def y_Y_append : MethodName := ⟨R_Y, "append", "(II)V"⟩
abbrev c_Y_broadcast : ByteArray := prog_6_method_11_code
def y_Y_broadcast : MethodName := ⟨R_Y, "broadcast", "(II)V"⟩
abbrev c_Y_clean : ByteArray := prog_6_method_21_code
def y_Y_clean : MethodName := ⟨R_Y, "clean", "(I)V"⟩
abbrev c_Y_crash : ByteArray := prog_6_method_27_code
def y_Y_crash : MethodName := ⟨R_Y, "crash", "(I)Z"⟩
abbrev c_Y_deafen : ByteArray := prog_6_method_30_code
def y_Y_deafen : MethodName := ⟨R_Y, "deafen", "(II)Z"⟩
abbrev c_Y_deliver : ByteArray := prog_6_method_13_code
def y_Y_deliver : MethodName := ⟨R_Y, "deliver", "(I)V"⟩
abbrev c_Y_delivered : ByteArray := prog_6_method_40_code
def y_Y_delivered : MethodName := ⟨R_Y, "delivered", "(I)I"⟩
abbrev c_Y_drop : ByteArray := prog_6_method_31_code
def y_Y_drop : MethodName := ⟨R_Y, "drop", "(I)Z"⟩
abbrev c_Y_enter : ByteArray := prog_6_method_20_code
def y_Y_enter : MethodName := ⟨R_Y, "enter", "(I)V"⟩
abbrev c_Y_finish : ByteArray := prog_6_method_24_code
def y_Y_finish : MethodName := ⟨R_Y, "finish", "(II)V"⟩
abbrev c_Y_first : ByteArray := prog_6_method_8_code
def y_Y_first : MethodName := ⟨R_Y, "first", "(I)I"⟩
abbrev c_Y_form : ByteArray := prog_6_method_25_code
def y_Y_form : MethodName := ⟨R_Y, "form", "(I)V"⟩
abbrev c_Y_has : ByteArray := prog_6_method_6_code
def y_Y_has : MethodName := ⟨R_Y, "has", "(II)Z"⟩
abbrev c_Y_hears : ByteArray := prog_6_method_4_code
def y_Y_hears : MethodName := ⟨R_Y, "hears", "(II)Z"⟩
abbrev c_Y_last : ByteArray := prog_6_method_35_code
def y_Y_last : MethodName := ⟨R_Y, "last", "(I)I"⟩
abbrev c_Y_line : ByteArray := prog_6_method_38_code
def y_Y_line : MethodName := ⟨R_Y, "line", "(I)I"⟩
abbrev c_Y_log : ByteArray := prog_6_method_41_code
def y_Y_log : MethodName := ⟨R_Y, "log", "(II)I"⟩
abbrev c_Y_members : ByteArray := prog_6_method_33_code
def y_Y_members : MethodName := ⟨R_Y, "members", "(I)I"⟩
abbrev c_Y_message : ByteArray := prog_6_method_5_code
def y_Y_message : MethodName := ⟨R_Y, "message", "(II)I"⟩
abbrev c_Y_newRing : ByteArray := prog_6_method_19_code
def y_Y_newRing : MethodName := ⟨R_Y, "newRing", "(II)V"⟩
abbrev c_Y_outside : ByteArray := prog_6_method_2_code
def y_Y_outside : MethodName := ⟨R_Y, "outside", "(I)Z"⟩
abbrev c_Y_passOn : ByteArray := prog_6_method_17_code
def y_Y_passOn : MethodName := ⟨R_Y, "passOn", "(II)V"⟩
abbrev c_Y_place : ByteArray := prog_6_method_29_code
def y_Y_place : MethodName := ⟨R_Y, "place", "(II)Z"⟩
abbrev c_Y_queued : ByteArray := prog_6_method_9_code
def y_Y_queued : MethodName := ⟨R_Y, "queued", "(I)I"⟩
abbrev c_Y_reach : ByteArray := prog_6_method_37_code
def y_Y_reach : MethodName := ⟨R_Y, "reach", "(I)I"⟩
abbrev c_Y_reachOf : ByteArray := prog_6_method_7_code
def y_Y_reachOf : MethodName := ⟨R_Y, "reachOf", "(I)I"⟩
abbrev c_Y_refuse : ByteArray := prog_6_method_3_code
def y_Y_refuse : MethodName := ⟨R_Y, "refuse", "(I)I"⟩
abbrev c_Y_requests : ByteArray := prog_6_method_36_code
def y_Y_requests : MethodName := ⟨R_Y, "requests", "(I)I"⟩
abbrev c_Y_restart : ByteArray := prog_6_method_28_code
def y_Y_restart : MethodName := ⟨R_Y, "restart", "(I)Z"⟩
abbrev c_Y_ring : ByteArray := prog_6_method_32_code
def y_Y_ring : MethodName := ⟨R_Y, "ring", "(I)I"⟩
abbrev c_Y_send : ByteArray := prog_6_method_10_code
def y_Y_send : MethodName := ⟨R_Y, "send", "(IZ)I"⟩
abbrev c_Y_sendAgain : ByteArray := prog_6_method_14_code
def y_Y_sendAgain : MethodName := ⟨R_Y, "sendAgain", "(II)I"⟩
abbrev c_Y_sendNew : ByteArray := prog_6_method_15_code
def y_Y_sendNew : MethodName := ⟨R_Y, "sendNew", "(II)I"⟩
abbrev c_Y_share : ByteArray := prog_6_method_23_code
def y_Y_share : MethodName := ⟨R_Y, "share", "(I)V"⟩
abbrev c_Y_stamp : ByteArray := prog_6_method_42_code
def y_Y_stamp : MethodName := ⟨R_Y, "stamp", "(I)I"⟩
abbrev c_Y_stranger : ByteArray := prog_6_method_16_code
def y_Y_stranger : MethodName := ⟨R_Y, "stranger", "(I)Z"⟩
abbrev c_Y_tick : ByteArray := prog_6_method_26_code
def y_Y_tick : MethodName := ⟨R_Y, "tick", "(I)I"⟩
abbrev c_Y_together : ByteArray := prog_6_method_22_code
def y_Y_together : MethodName := ⟨R_Y, "together", "(II)I"⟩
abbrev c_Y_token : ByteArray := prog_6_method_34_code
def y_Y_token : MethodName := ⟨R_Y, "token", "(I)I"⟩
abbrev c_Y_visit : ByteArray := prog_6_method_18_code
def y_Y_visit : MethodName := ⟨R_Y, "visit", "(I)I"⟩
abbrev c_Y_waiting : ByteArray := prog_6_method_39_code
def y_Y_waiting : MethodName := ⟨R_Y, "waiting", "(I)I"⟩
abbrev c_J_bitCount : ByteArray := prog_7_method_50_code
def y_J_bitCount : MethodName := ⟨R_J, "bitCount", "(J)I"⟩
abbrev c_L_law : ByteArray := code
def pv_RN : String := R_N
def pv_RR : String := R_R
/-- the words that keep -/
def pv_T : List Cond := lw_tbl.filter goodWord
theorem pv_T_good : ∀ w ∈ pv_T, ((w.onTables && w.keeps) = true ∨ ∃ ty, w = .arrayClass ty) := fun w h => good_of_word (List.mem_filter.mp h).2
theorem pv_in {w : Cond} (i : Nat) (h : tables_1[i]? = some w) (hg : goodWord w = true) : w ∈ pv_T := List.mem_filter.mpr ⟨List.mem_append_right _ (List.mem_of_getElem? h), hg⟩
theorem pv_inS {w : Cond} (i : Nat) (h : (k2_sels lw_privs)[i]? = some w) (hg : goodWord w = true) : w ∈ pv_T := List.mem_filter.mpr ⟨List.mem_append_left _ (List.mem_of_getElem? h), hg⟩
set_option maxRecDepth 100000 in
theorem wn_L : Cond.initialized R_L ∈ pv_T := pv_in 0 rfl rfl
set_option maxRecDepth 100000 in
theorem wn_O : Cond.initialized R_O ∈ pv_T := pv_in 1 rfl rfl
set_option maxRecDepth 100000 in
theorem wn_N : Cond.initialized R_N ∈ pv_T := pv_in 2 rfl rfl
set_option maxRecDepth 100000 in
theorem wn_R : Cond.initialized R_R ∈ pv_T := pv_in 3 rfl rfl
set_option maxRecDepth 100000 in
theorem wn_M : Cond.initialized R_M ∈ pv_T := pv_in 4 rfl rfl
set_option maxRecDepth 100000 in
theorem wn_Y : Cond.initialized R_Y ∈ pv_T := pv_in 5 rfl rfl
set_option maxRecDepth 100000 in
theorem wn_Math : Cond.initialized "java/lang/Math" ∈ pv_T := pv_in 6 rfl rfl
set_option maxRecDepth 100000 in
theorem wn_J : Cond.initialized R_J ∈ pv_T := pv_in 7 rfl rfl
set_option maxRecDepth 100000 in
theorem wl_L_7 : Cond.classLink R_L 7 R_O ∈ pv_T := pv_in 8 rfl rfl
set_option maxRecDepth 100000 in
theorem wt_O : Cond.instantiable R_O 4 ∈ pv_T := pv_in 9 rfl rfl
set_option maxRecDepth 100000 in
theorem wm_L_9 : Cond.methodLink R_L 9 y_O_init ∈ pv_T := pv_in 10 rfl rfl
set_option maxRecDepth 100000 in
theorem wi_O_init : Cond.instanceMethod y_O_init ∈ pv_T := pv_in 11 rfl rfl
set_option maxRecDepth 100000 in
theorem wc_O_init : Cond.code y_O_init c_O_init 2 none ∈ pv_T := pv_in 12 rfl rfl
set_option maxRecDepth 100000 in
theorem wm_O_1 : Cond.methodLink R_O 1 objectInit ∈ pv_T := pv_in 13 rfl rfl
set_option maxRecDepth 100000 in
theorem wi_objinit : Cond.instanceMethod objectInit ∈ pv_T := pv_in 14 rfl rfl
set_option maxRecDepth 100000 in
theorem wc_objinit : Cond.code objectInit ⟨#[0xb1]⟩ 1 none ∈ pv_T := pv_in 15 rfl rfl
set_option maxRecDepth 100000 in
theorem wl_O_9 : Cond.classLink R_O 9 R_N ∈ pv_T := pv_in 16 rfl rfl
set_option maxRecDepth 100000 in
theorem wt_N : Cond.instantiable R_N 12 ∈ pv_T := pv_in 18 rfl rfl
set_option maxRecDepth 100000 in
theorem wm_O_15 : Cond.methodLink R_O 15 y_N_init ∈ pv_T := pv_in 19 rfl rfl
set_option maxRecDepth 100000 in
theorem wi_N_init : Cond.instanceMethod y_N_init ∈ pv_T := pv_in 20 rfl rfl
set_option maxRecDepth 100000 in
theorem wc_N_init : Cond.code y_N_init c_N_init 2 none ∈ pv_T := pv_in 21 rfl rfl
set_option maxRecDepth 100000 in
theorem wm_N_3 : Cond.methodLink R_N 3 objectInit ∈ pv_T := pv_in 22 rfl rfl
set_option maxRecDepth 100000 in
theorem wf_N_9 : Cond.fieldLink R_N 9 "RotatingTokenGroup$Node" "number" "I" ∈ pv_T := pv_in 23 rfl rfl
set_option maxRecDepth 100000 in
theorem wf_R_41 : Cond.fieldLink R_R 41 "RotatingTokenGroup$Node" "number" "I" ∈ pv_T := pv_in 24 rfl rfl
set_option maxRecDepth 100000 in
theorem wf_O_196 : Cond.fieldLink R_O 196 "RotatingTokenGroup$Node" "number" "I" ∈ pv_T := pv_in 25 rfl rfl
set_option maxRecDepth 100000 in
theorem wf_N_15 : Cond.fieldLink R_N 15 "RotatingTokenGroup$Node" "queue" "[I" ∈ pv_T := pv_in 26 rfl rfl
set_option maxRecDepth 100000 in
theorem wf_N_19 : Cond.fieldLink R_N 19 "RotatingTokenGroup$Node" "entries" "[I" ∈ pv_T := pv_in 27 rfl rfl
set_option maxRecDepth 100000 in
theorem wf_O_143 : Cond.fieldLink R_O 143 "RotatingTokenGroup$Node" "entries" "[I" ∈ pv_T := pv_in 28 rfl rfl
set_option maxRecDepth 100000 in
theorem wf_N_22 : Cond.fieldLink R_N 22 "RotatingTokenGroup$Node" "ring" "LRotatingTokenGroup$Ring;" ∈ pv_T := pv_in 29 rfl rfl
set_option maxRecDepth 100000 in
theorem wf_O_60 : Cond.fieldLink R_O 60 "RotatingTokenGroup$Node" "ring" "LRotatingTokenGroup$Ring;" ∈ pv_T := pv_in 30 rfl rfl
set_option maxRecDepth 100000 in
theorem wf_N_26 : Cond.fieldLink R_N 26 "RotatingTokenGroup$Node" "held" "J" ∈ pv_T := pv_in 31 rfl rfl
set_option maxRecDepth 100000 in
theorem wf_O_216 : Cond.fieldLink R_O 216 "RotatingTokenGroup$Node" "held" "J" ∈ pv_T := pv_in 32 rfl rfl
set_option maxRecDepth 100000 in
theorem wf_O_50 : Cond.fieldLink R_O 50 "RotatingTokenGroup$Node" "queued" "I" ∈ pv_T := pv_in 33 rfl rfl
set_option maxRecDepth 100000 in
theorem wf_N_41 : Cond.fieldLink R_N 41 "RotatingTokenGroup$Node" "queued" "I" ∈ pv_T := pv_in 34 rfl rfl
set_option maxRecDepth 100000 in
theorem wf_N_50 : Cond.fieldLink R_N 50 "RotatingTokenGroup$Node" "logged" "I" ∈ pv_T := pv_in 35 rfl rfl
set_option maxRecDepth 100000 in
theorem wf_O_140 : Cond.fieldLink R_O 140 "RotatingTokenGroup$Node" "logged" "I" ∈ pv_T := pv_in 36 rfl rfl
set_option maxRecDepth 100000 in
theorem wf_O_96 : Cond.fieldLink R_O 96 "RotatingTokenGroup$Node" "area" "I" ∈ pv_T := pv_in 37 rfl rfl
set_option maxRecDepth 100000 in
theorem wf_O_82 : Cond.fieldLink R_O 82 "RotatingTokenGroup$Node" "line" "I" ∈ pv_T := pv_in 38 rfl rfl
set_option maxRecDepth 100000 in
theorem wf_N_61 : Cond.fieldLink R_N 61 "RotatingTokenGroup$Node" "line" "I" ∈ pv_T := pv_in 39 rfl rfl
set_option maxRecDepth 100000 in
theorem wf_N_64 : Cond.fieldLink R_N 64 "RotatingTokenGroup$Node" "place" "I" ∈ pv_T := pv_in 40 rfl rfl
set_option maxRecDepth 100000 in
theorem wf_O_182 : Cond.fieldLink R_O 182 "RotatingTokenGroup$Node" "place" "I" ∈ pv_T := pv_in 41 rfl rfl
set_option maxRecDepth 100000 in
theorem wf_N_30 : Cond.fieldLink R_N 30 "RotatingTokenGroup$Node" "deafness" "I" ∈ pv_T := pv_in 42 rfl rfl
set_option maxRecDepth 100000 in
theorem wf_O_112 : Cond.fieldLink R_O 112 "RotatingTokenGroup$Node" "deafness" "I" ∈ pv_T := pv_in 43 rfl rfl
set_option maxRecDepth 100000 in
theorem wf_O_89 : Cond.fieldLink R_O 89 "RotatingTokenGroup$Node" "timer" "I" ∈ pv_T := pv_in 44 rfl rfl
set_option maxRecDepth 100000 in
theorem wf_N_67 : Cond.fieldLink R_N 67 "RotatingTokenGroup$Node" "timer" "I" ∈ pv_T := pv_in 45 rfl rfl
set_option maxRecDepth 100000 in
theorem wa_int : Cond.arrayClass Jvm.ClassFile.FieldType.int ∈ pv_T := pv_in 71 rfl rfl
set_option maxRecDepth 100000 in
theorem wl_O_18 : Cond.classLink R_O 18 R_R ∈ pv_T := pv_in 72 rfl rfl
set_option maxRecDepth 100000 in
theorem wt_R : Cond.instantiable R_R 7 ∈ pv_T := pv_in 74 rfl rfl
set_option maxRecDepth 100000 in
theorem wm_O_24 : Cond.methodLink R_O 24 y_R_init ∈ pv_T := pv_in 75 rfl rfl
set_option maxRecDepth 100000 in
theorem wi_R_init : Cond.instanceMethod y_R_init ∈ pv_T := pv_in 76 rfl rfl
set_option maxRecDepth 100000 in
theorem wc_R_init : Cond.code y_R_init c_R_init 1 none ∈ pv_T := pv_in 77 rfl rfl
set_option maxRecDepth 100000 in
theorem wm_R_3 : Cond.methodLink R_R 3 objectInit ∈ pv_T := pv_in 78 rfl rfl
set_option maxRecDepth 100000 in
theorem wf_R_9 : Cond.fieldLink R_R 9 "RotatingTokenGroup$Ring" "messageAt" "[I" ∈ pv_T := pv_in 79 rfl rfl
set_option maxRecDepth 100000 in
theorem wf_O_166 : Cond.fieldLink R_O 166 "RotatingTokenGroup$Ring" "messageAt" "[I" ∈ pv_T := pv_in 80 rfl rfl
set_option maxRecDepth 100000 in
theorem wf_R_15 : Cond.fieldLink R_R 15 "RotatingTokenGroup$Ring" "marks" "[I" ∈ pv_T := pv_in 81 rfl rfl
set_option maxRecDepth 100000 in
theorem wf_R_22 : Cond.fieldLink R_R 22 "RotatingTokenGroup$Ring" "number" "I" ∈ pv_T := pv_in 82 rfl rfl
set_option maxRecDepth 100000 in
theorem wf_O_118 : Cond.fieldLink R_O 118 "RotatingTokenGroup$Ring" "number" "I" ∈ pv_T := pv_in 83 rfl rfl
set_option maxRecDepth 100000 in
theorem wf_R_25 : Cond.fieldLink R_R 25 "RotatingTokenGroup$Ring" "members" "I" ∈ pv_T := pv_in 84 rfl rfl
set_option maxRecDepth 100000 in
theorem wf_O_121 : Cond.fieldLink R_O 121 "RotatingTokenGroup$Ring" "members" "I" ∈ pv_T := pv_in 85 rfl rfl
set_option maxRecDepth 100000 in
theorem wf_R_18 : Cond.fieldLink R_R 18 "RotatingTokenGroup$Ring" "tokenAt" "I" ∈ pv_T := pv_in 86 rfl rfl
set_option maxRecDepth 100000 in
theorem wf_O_64 : Cond.fieldLink R_O 64 "RotatingTokenGroup$Ring" "tokenAt" "I" ∈ pv_T := pv_in 87 rfl rfl
set_option maxRecDepth 100000 in
theorem wf_N_56 : Cond.fieldLink R_N 56 "RotatingTokenGroup$Ring" "tokenAt" "I" ∈ pv_T := pv_in 88 rfl rfl
set_option maxRecDepth 100000 in
theorem wf_R_32 : Cond.fieldLink R_R 32 "RotatingTokenGroup$Ring" "last" "I" ∈ pv_T := pv_in 89 rfl rfl
set_option maxRecDepth 100000 in
theorem wf_O_124 : Cond.fieldLink R_O 124 "RotatingTokenGroup$Ring" "last" "I" ∈ pv_T := pv_in 90 rfl rfl
set_option maxRecDepth 100000 in
theorem wf_R_35 : Cond.fieldLink R_R 35 "RotatingTokenGroup$Ring" "requests" "J" ∈ pv_T := pv_in 91 rfl rfl
set_option maxRecDepth 100000 in
theorem wf_O_127 : Cond.fieldLink R_O 127 "RotatingTokenGroup$Ring" "requests" "J" ∈ pv_T := pv_in 92 rfl rfl
set_option maxRecDepth 100000 in
theorem wl_O_25 : Cond.classLink R_O 25 R_M ∈ pv_T := pv_in 108 rfl rfl
set_option maxRecDepth 100000 in
theorem wt_M : Cond.instantiable R_M 4 ∈ pv_T := pv_in 109 rfl rfl
set_option maxRecDepth 100000 in
theorem wm_O_27 : Cond.methodLink R_O 27 y_M_init ∈ pv_T := pv_in 110 rfl rfl
set_option maxRecDepth 100000 in
theorem wi_M_init : Cond.instanceMethod y_M_init ∈ pv_T := pv_in 111 rfl rfl
set_option maxRecDepth 100000 in
theorem wc_M_init : Cond.code y_M_init c_M_init 1 none ∈ pv_T := pv_in 112 rfl rfl
set_option maxRecDepth 100000 in
theorem wm_M_3 : Cond.methodLink R_M 3 objectInit ∈ pv_T := pv_in 113 rfl rfl
set_option maxRecDepth 100000 in
theorem wf_M_9 : Cond.fieldLink R_M 9 "RotatingTokenGroup$Messages" "origins" "[I" ∈ pv_T := pv_in 114 rfl rfl
set_option maxRecDepth 100000 in
theorem wf_O_229 : Cond.fieldLink R_O 229 "RotatingTokenGroup$Messages" "origins" "[I" ∈ pv_T := pv_in 115 rfl rfl
set_option maxRecDepth 100000 in
theorem wf_M_15 : Cond.fieldLink R_M 15 "RotatingTokenGroup$Messages" "safe" "[Z" ∈ pv_T := pv_in 116 rfl rfl
set_option maxRecDepth 100000 in
theorem wf_O_192 : Cond.fieldLink R_O 192 "RotatingTokenGroup$Messages" "safe" "[Z" ∈ pv_T := pv_in 117 rfl rfl
set_option maxRecDepth 100000 in
theorem wf_M_19 : Cond.fieldLink R_M 19 "RotatingTokenGroup$Messages" "stamps" "[I" ∈ pv_T := pv_in 118 rfl rfl
set_option maxRecDepth 100000 in
theorem wf_O_147 : Cond.fieldLink R_O 147 "RotatingTokenGroup$Messages" "stamps" "[I" ∈ pv_T := pv_in 119 rfl rfl
set_option maxRecDepth 100000 in
theorem wf_M_22 : Cond.fieldLink R_M 22 "RotatingTokenGroup$Messages" "taken" "I" ∈ pv_T := pv_in 120 rfl rfl
set_option maxRecDepth 100000 in
theorem wf_O_47 : Cond.fieldLink R_O 47 "RotatingTokenGroup$Messages" "taken" "I" ∈ pv_T := pv_in 121 rfl rfl
set_option maxRecDepth 100000 in
theorem wa_boolean : Cond.arrayClass Jvm.ClassFile.FieldType.boolean ∈ pv_T := pv_in 131 rfl rfl
set_option maxRecDepth 100000 in
theorem wm_O_36 : Cond.methodLink R_O 36 y_O_enterNewRing ∈ pv_T := pv_in 132 rfl rfl
set_option maxRecDepth 100000 in
theorem wi_O_enterNewRing : Cond.instanceMethod y_O_enterNewRing ∈ pv_T := pv_in 134 rfl rfl
set_option maxRecDepth 100000 in
theorem wc_O_enterNewRing : Cond.code y_O_enterNewRing c_O_enterNewRing 4 none ∈ pv_T := pv_in 135 rfl rfl
set_option maxRecDepth 100000 in
theorem wm_O_232 : Cond.methodLink R_O 232 y_O_unusedRing ∈ pv_T := pv_in 136 rfl rfl
set_option maxRecDepth 100000 in
theorem wi_O_unusedRing : Cond.instanceMethod y_O_unusedRing ∈ pv_T := pv_in 138 rfl rfl
set_option maxRecDepth 100000 in
theorem wc_O_unusedRing : Cond.code y_O_unusedRing c_O_unusedRing 2 (some (.object "RotatingTokenGroup$Ring")) ∈ pv_T := pv_in 139 rfl rfl
set_option maxRecDepth 100000 in
theorem wm_O_204 : Cond.methodLink R_O 204 y_O_nodesOf ∈ pv_T := pv_in 140 rfl rfl
set_option maxRecDepth 100000 in
theorem wi_O_nodesOf : Cond.instanceMethod y_O_nodesOf ∈ pv_T := pv_in 142 rfl rfl
set_option maxRecDepth 100000 in
theorem wc_O_nodesOf : Cond.code y_O_nodesOf c_O_nodesOf 4 (some .int) ∈ pv_T := pv_in 143 rfl rfl
set_option maxRecDepth 100000 in
theorem wm_O_236 : Cond.methodLink R_O 236 y_R_form ∈ pv_T := pv_in 144 rfl rfl
set_option maxRecDepth 100000 in
theorem wi_R_form : Cond.instanceMethod y_R_form ∈ pv_T := pv_in 145 rfl rfl
set_option maxRecDepth 100000 in
theorem we_R_form : Cond.selects R_R y_R_form y_R_form ∈ pv_T := pv_in 146 rfl rfl
set_option maxRecDepth 100000 in
theorem wc_R_form : Cond.code y_R_form c_R_form 4 none ∈ pv_T := pv_in 147 rfl rfl
set_option maxRecDepth 100000 in
theorem wm_R_28 : Cond.methodLink R_R 28 y_R_memberAfter ∈ pv_T := pv_in 148 rfl rfl
set_option maxRecDepth 100000 in
theorem wi_R_memberAfter : Cond.instanceMethod y_R_memberAfter ∈ pv_T := pv_in 149 rfl rfl
set_option maxRecDepth 100000 in
theorem we_R_memberAfter : Cond.selects R_R y_R_memberAfter y_R_memberAfter ∈ pv_T := pv_in 150 rfl rfl
set_option maxRecDepth 100000 in
theorem wc_R_memberAfter : Cond.code y_R_memberAfter c_R_memberAfter 4 (some .int) ∈ pv_T := pv_in 151 rfl rfl
set_option maxRecDepth 100000 in
theorem ws_O_isIn : Cond.static y_O_isIn ∈ pv_T := pv_in 153 rfl rfl
set_option maxRecDepth 100000 in
theorem wc_O_isIn : Cond.code y_O_isIn c_O_isIn 2 (some .boolean) ∈ pv_T := pv_in 154 rfl rfl
set_option maxRecDepth 100000 in
theorem wm_O_212 : Cond.methodLink R_O 212 y_O_isIn ∈ pv_T := pv_in 155 rfl rfl
set_option maxRecDepth 100000 in
theorem wm_O_240 : Cond.methodLink R_O 240 y_N_enter ∈ pv_T := pv_in 156 rfl rfl
set_option maxRecDepth 100000 in
theorem wi_N_enter : Cond.instanceMethod y_N_enter ∈ pv_T := pv_in 157 rfl rfl
set_option maxRecDepth 100000 in
theorem we_N_enter : Cond.selects R_N y_N_enter y_N_enter ∈ pv_T := pv_in 158 rfl rfl
set_option maxRecDepth 100000 in
theorem wc_N_enter : Cond.code y_N_enter c_N_enter 2 none ∈ pv_T := pv_in 159 rfl rfl
set_option maxRecDepth 100000 in
theorem wm_N_53 : Cond.methodLink R_N 53 y_N_leaveRing ∈ pv_T := pv_in 160 rfl rfl
set_option maxRecDepth 100000 in
theorem wi_N_leaveRing : Cond.instanceMethod y_N_leaveRing ∈ pv_T := pv_in 161 rfl rfl
set_option maxRecDepth 100000 in
theorem we_N_leaveRing : Cond.selects R_N y_N_leaveRing y_N_leaveRing ∈ pv_T := pv_in 162 rfl rfl
set_option maxRecDepth 100000 in
theorem wc_N_leaveRing : Cond.code y_N_leaveRing c_N_leaveRing 1 none ∈ pv_T := pv_in 163 rfl rfl
set_option maxRecDepth 100000 in
theorem wf_O_11 : Cond.fieldLink R_O 11 "RotatingTokenGroup" "nodes" "[LRotatingTokenGroup$Node;" ∈ pv_T := pv_in 164 rfl rfl
set_option maxRecDepth 100000 in
theorem wf_O_20 : Cond.fieldLink R_O 20 "RotatingTokenGroup" "rings" "[LRotatingTokenGroup$Ring;" ∈ pv_T := pv_in 165 rfl rfl
set_option maxRecDepth 100000 in
theorem wf_O_28 : Cond.fieldLink R_O 28 "RotatingTokenGroup" "messages" "LRotatingTokenGroup$Messages;" ∈ pv_T := pv_in 166 rfl rfl
set_option maxRecDepth 100000 in
theorem wf_O_32 : Cond.fieldLink R_O 32 "RotatingTokenGroup" "greatestRing" "I" ∈ pv_T := pv_in 167 rfl rfl
set_option maxRecDepth 100000 in
theorem wm_L_13 : Cond.methodLink R_L 13 y_O_send ∈ pv_T := pv_in 177 rfl rfl
set_option maxRecDepth 100000 in
theorem wi_O_send : Cond.instanceMethod y_O_send ∈ pv_T := pv_in 178 rfl rfl
set_option maxRecDepth 100000 in
theorem we_O_send : Cond.selects R_O y_O_send y_O_send ∈ pv_T := pv_in 179 rfl rfl
set_option maxRecDepth 100000 in
theorem wc_O_send : Cond.code y_O_send c_O_send 5 (some .int) ∈ pv_T := pv_in 180 rfl rfl
set_option maxRecDepth 100000 in
theorem wm_O_39 : Cond.methodLink R_O 39 y_O_isNode ∈ pv_T := pv_in 181 rfl rfl
set_option maxRecDepth 100000 in
theorem ws_O_isNode : Cond.static y_O_isNode ∈ pv_T := pv_in 182 rfl rfl
set_option maxRecDepth 100000 in
theorem wc_O_isNode : Cond.code y_O_isNode c_O_isNode 1 (some .boolean) ∈ pv_T := pv_in 183 rfl rfl
set_option maxRecDepth 100000 in
theorem wm_O_43 : Cond.methodLink R_O 43 y_N_isUp ∈ pv_T := pv_in 184 rfl rfl
set_option maxRecDepth 100000 in
theorem wi_N_isUp : Cond.instanceMethod y_N_isUp ∈ pv_T := pv_in 185 rfl rfl
set_option maxRecDepth 100000 in
theorem we_N_isUp : Cond.selects R_N y_N_isUp y_N_isUp ∈ pv_T := pv_in 186 rfl rfl
set_option maxRecDepth 100000 in
theorem wc_N_isUp : Cond.code y_N_isUp c_N_isUp 1 (some .boolean) ∈ pv_T := pv_in 187 rfl rfl
set_option maxRecDepth 100000 in
theorem wm_O_53 : Cond.methodLink R_O 53 y_M_take ∈ pv_T := pv_in 188 rfl rfl
set_option maxRecDepth 100000 in
theorem wi_M_take : Cond.instanceMethod y_M_take ∈ pv_T := pv_in 189 rfl rfl
set_option maxRecDepth 100000 in
theorem we_M_take : Cond.selects R_M y_M_take y_M_take ∈ pv_T := pv_in 190 rfl rfl
set_option maxRecDepth 100000 in
theorem wc_M_take : Cond.code y_M_take c_M_take 3 (some .int) ∈ pv_T := pv_in 191 rfl rfl
set_option maxRecDepth 100000 in
theorem wm_O_57 : Cond.methodLink R_O 57 y_N_enqueue ∈ pv_T := pv_in 192 rfl rfl
set_option maxRecDepth 100000 in
theorem wi_N_enqueue : Cond.instanceMethod y_N_enqueue ∈ pv_T := pv_in 193 rfl rfl
set_option maxRecDepth 100000 in
theorem we_N_enqueue : Cond.selects R_N y_N_enqueue y_N_enqueue ∈ pv_T := pv_in 194 rfl rfl
set_option maxRecDepth 100000 in
theorem wc_N_enqueue : Cond.code y_N_enqueue c_N_enqueue 2 none ∈ pv_T := pv_in 195 rfl rfl
set_option maxRecDepth 100000 in
theorem wm_L_18 : Cond.methodLink R_L 18 y_O_visit ∈ pv_T := pv_in 196 rfl rfl
set_option maxRecDepth 100000 in
theorem wi_O_visit : Cond.instanceMethod y_O_visit ∈ pv_T := pv_in 197 rfl rfl
set_option maxRecDepth 100000 in
theorem we_O_visit : Cond.selects R_O y_O_visit y_O_visit ∈ pv_T := pv_in 198 rfl rfl
set_option maxRecDepth 100000 in
theorem wc_O_visit : Cond.code y_O_visit c_O_visit 6 (some .int) ∈ pv_T := pv_in 199 rfl rfl
set_option maxRecDepth 100000 in
theorem wm_O_67 : Cond.methodLink R_O 67 y_O_broadcastRequests ∈ pv_T := pv_in 200 rfl rfl
set_option maxRecDepth 100000 in
theorem wi_O_broadcastRequests : Cond.instanceMethod y_O_broadcastRequests ∈ pv_T := pv_in 202 rfl rfl
set_option maxRecDepth 100000 in
theorem wc_O_broadcastRequests : Cond.code y_O_broadcastRequests c_O_broadcastRequests 5 (some .int) ∈ pv_T := pv_in 203 rfl rfl
set_option maxRecDepth 100000 in
theorem wm_O_150 : Cond.methodLink R_O 150 y_R_isRequested ∈ pv_T := pv_in 204 rfl rfl
set_option maxRecDepth 100000 in
theorem wi_R_isRequested : Cond.instanceMethod y_R_isRequested ∈ pv_T := pv_in 205 rfl rfl
set_option maxRecDepth 100000 in
theorem we_R_isRequested : Cond.selects R_R y_R_isRequested y_R_isRequested ∈ pv_T := pv_in 206 rfl rfl
set_option maxRecDepth 100000 in
theorem wc_R_isRequested : Cond.code y_R_isRequested c_R_isRequested 2 (some .boolean) ∈ pv_T := pv_in 207 rfl rfl
set_option maxRecDepth 100000 in
theorem wm_O_153 : Cond.methodLink R_O 153 y_N_holds ∈ pv_T := pv_in 208 rfl rfl
set_option maxRecDepth 100000 in
theorem wi_N_holds : Cond.instanceMethod y_N_holds ∈ pv_T := pv_in 209 rfl rfl
set_option maxRecDepth 100000 in
theorem we_N_holds : Cond.selects R_N y_N_holds y_N_holds ∈ pv_T := pv_in 210 rfl rfl
set_option maxRecDepth 100000 in
theorem wc_N_holds : Cond.code y_N_holds c_N_holds 2 (some .boolean) ∈ pv_T := pv_in 211 rfl rfl
set_option maxRecDepth 100000 in
theorem wm_O_156 : Cond.methodLink R_O 156 y_R_takeOffRequest ∈ pv_T := pv_in 212 rfl rfl
set_option maxRecDepth 100000 in
theorem wi_R_takeOffRequest : Cond.instanceMethod y_R_takeOffRequest ∈ pv_T := pv_in 213 rfl rfl
set_option maxRecDepth 100000 in
theorem we_R_takeOffRequest : Cond.selects R_R y_R_takeOffRequest y_R_takeOffRequest ∈ pv_T := pv_in 214 rfl rfl
set_option maxRecDepth 100000 in
theorem wc_R_takeOffRequest : Cond.code y_R_takeOffRequest c_R_takeOffRequest 2 none ∈ pv_T := pv_in 215 rfl rfl
set_option maxRecDepth 100000 in
theorem wk_R_39 : Cond.constantLong R_R 39 (-1 : Int64) ∈ pv_T := pv_in 216 rfl rfl
set_option maxRecDepth 100000 in
theorem wm_O_159 : Cond.methodLink R_O 159 y_O_broadcast ∈ pv_T := pv_in 217 rfl rfl
set_option maxRecDepth 100000 in
theorem wi_O_broadcast : Cond.instanceMethod y_O_broadcast ∈ pv_T := pv_in 219 rfl rfl
set_option maxRecDepth 100000 in
theorem wc_O_broadcast : Cond.code y_O_broadcast c_O_broadcast 7 none ∈ pv_T := pv_in 220 rfl rfl
set_option maxRecDepth 100000 in
theorem wm_O_169 : Cond.methodLink R_O 169 y_N_hold ∈ pv_T := pv_in 221 rfl rfl
set_option maxRecDepth 100000 in
theorem wi_N_hold : Cond.instanceMethod y_N_hold ∈ pv_T := pv_in 222 rfl rfl
set_option maxRecDepth 100000 in
theorem we_N_hold : Cond.selects R_N y_N_hold y_N_hold ∈ pv_T := pv_in 223 rfl rfl
set_option maxRecDepth 100000 in
theorem wc_N_hold : Cond.code y_N_hold c_N_hold 2 none ∈ pv_T := pv_in 224 rfl rfl
set_option maxRecDepth 100000 in
theorem wm_O_172 : Cond.methodLink R_O 172 y_O_hearEachOther ∈ pv_T := pv_in 225 rfl rfl
set_option maxRecDepth 100000 in
theorem ws_O_hearEachOther : Cond.static y_O_hearEachOther ∈ pv_T := pv_in 226 rfl rfl
set_option maxRecDepth 100000 in
theorem wc_O_hearEachOther : Cond.code y_O_hearEachOther c_O_hearEachOther 2 (some .boolean) ∈ pv_T := pv_in 227 rfl rfl
set_option maxRecDepth 100000 in
theorem wm_O_176 : Cond.methodLink R_O 176 y_N_receive ∈ pv_T := pv_in 228 rfl rfl
set_option maxRecDepth 100000 in
theorem wi_N_receive : Cond.instanceMethod y_N_receive ∈ pv_T := pv_in 229 rfl rfl
set_option maxRecDepth 100000 in
theorem we_N_receive : Cond.selects R_N y_N_receive y_N_receive ∈ pv_T := pv_in 230 rfl rfl
set_option maxRecDepth 100000 in
theorem wc_N_receive : Cond.code y_N_receive c_N_receive 2 none ∈ pv_T := pv_in 231 rfl rfl
set_option maxRecDepth 100000 in
theorem wm_N_33 : Cond.methodLink R_N 33 y_N_hold ∈ pv_T := pv_in 232 rfl rfl
set_option maxRecDepth 100000 in
theorem wm_O_71 : Cond.methodLink R_O 71 y_O_broadcastNew ∈ pv_T := pv_in 233 rfl rfl
set_option maxRecDepth 100000 in
theorem wi_O_broadcastNew : Cond.instanceMethod y_O_broadcastNew ∈ pv_T := pv_in 235 rfl rfl
set_option maxRecDepth 100000 in
theorem wc_O_broadcastNew : Cond.code y_O_broadcastNew c_O_broadcastNew 5 (some .int) ∈ pv_T := pv_in 236 rfl rfl
set_option maxRecDepth 100000 in
theorem wm_O_163 : Cond.methodLink R_O 163 y_N_dequeue ∈ pv_T := pv_in 237 rfl rfl
set_option maxRecDepth 100000 in
theorem wi_N_dequeue : Cond.instanceMethod y_N_dequeue ∈ pv_T := pv_in 238 rfl rfl
set_option maxRecDepth 100000 in
theorem we_N_dequeue : Cond.selects R_N y_N_dequeue y_N_dequeue ∈ pv_T := pv_in 239 rfl rfl
set_option maxRecDepth 100000 in
theorem wc_N_dequeue : Cond.code y_N_dequeue c_N_dequeue 3 (some .int) ∈ pv_T := pv_in 240 rfl rfl
set_option maxRecDepth 100000 in
theorem wm_N_44 : Cond.methodLink R_N 44 Lib.Math.max.name ∈ pv_T := pv_in 241 rfl rfl
set_option maxRecDepth 100000 in
theorem ws_max : Cond.static Lib.Math.max.name ∈ pv_T := pv_in 242 rfl rfl
set_option maxRecDepth 100000 in
theorem wc_max : Cond.code Lib.Math.max.name Lib.Math.max.code 2 (some .int) ∈ pv_T := pv_in 243 rfl rfl
set_option maxRecDepth 100000 in
theorem wm_O_74 : Cond.methodLink R_O 74 y_R_markAndRequest ∈ pv_T := pv_in 244 rfl rfl
set_option maxRecDepth 100000 in
theorem wi_R_markAndRequest : Cond.instanceMethod y_R_markAndRequest ∈ pv_T := pv_in 245 rfl rfl
set_option maxRecDepth 100000 in
theorem we_R_markAndRequest : Cond.selects R_R y_R_markAndRequest y_R_markAndRequest ∈ pv_T := pv_in 246 rfl rfl
set_option maxRecDepth 100000 in
theorem wc_R_markAndRequest : Cond.code y_R_markAndRequest c_R_markAndRequest 3 none ∈ pv_T := pv_in 247 rfl rfl
set_option maxRecDepth 100000 in
theorem wm_R_44 : Cond.methodLink R_R 44 y_N_heldWithoutGap ∈ pv_T := pv_in 248 rfl rfl
set_option maxRecDepth 100000 in
theorem wi_N_heldWithoutGap : Cond.instanceMethod y_N_heldWithoutGap ∈ pv_T := pv_in 249 rfl rfl
set_option maxRecDepth 100000 in
theorem we_N_heldWithoutGap : Cond.selects R_N y_N_heldWithoutGap y_N_heldWithoutGap ∈ pv_T := pv_in 250 rfl rfl
set_option maxRecDepth 100000 in
theorem wc_N_heldWithoutGap : Cond.code y_N_heldWithoutGap c_N_heldWithoutGap 2 (some .int) ∈ pv_T := pv_in 251 rfl rfl
set_option maxRecDepth 100000 in
theorem wm_N_37 : Cond.methodLink R_N 37 y_N_holds ∈ pv_T := pv_in 252 rfl rfl
set_option maxRecDepth 100000 in
theorem wm_R_48 : Cond.methodLink R_R 48 y_N_holds ∈ pv_T := pv_in 253 rfl rfl
set_option maxRecDepth 100000 in
theorem wm_O_78 : Cond.methodLink R_O 78 y_R_leastMark ∈ pv_T := pv_in 254 rfl rfl
set_option maxRecDepth 100000 in
theorem wi_R_leastMark : Cond.instanceMethod y_R_leastMark ∈ pv_T := pv_in 255 rfl rfl
set_option maxRecDepth 100000 in
theorem we_R_leastMark : Cond.selects R_R y_R_leastMark y_R_leastMark ∈ pv_T := pv_in 256 rfl rfl
set_option maxRecDepth 100000 in
theorem wc_R_leastMark : Cond.code y_R_leastMark c_R_leastMark 3 (some .int) ∈ pv_T := pv_in 257 rfl rfl
set_option maxRecDepth 100000 in
theorem wm_R_56 : Cond.methodLink R_R 56 Lib.Math.min.name ∈ pv_T := pv_in 258 rfl rfl
set_option maxRecDepth 100000 in
theorem ws_min : Cond.static Lib.Math.min.name ∈ pv_T := pv_in 259 rfl rfl
set_option maxRecDepth 100000 in
theorem wc_min : Cond.code Lib.Math.min.name Lib.Math.min.code 2 (some .int) ∈ pv_T := pv_in 260 rfl rfl
set_option maxRecDepth 100000 in
theorem wm_O_85 : Cond.methodLink R_O 85 y_O_deliverInRing ∈ pv_T := pv_in 261 rfl rfl
set_option maxRecDepth 100000 in
theorem wi_O_deliverInRing : Cond.instanceMethod y_O_deliverInRing ∈ pv_T := pv_in 263 rfl rfl
set_option maxRecDepth 100000 in
theorem wc_O_deliverInRing : Cond.code y_O_deliverInRing c_O_deliverInRing 6 none ∈ pv_T := pv_in 264 rfl rfl
set_option maxRecDepth 100000 in
theorem wm_O_179 : Cond.methodLink R_O 179 y_O_deliverRegular ∈ pv_T := pv_in 265 rfl rfl
set_option maxRecDepth 100000 in
theorem wi_O_deliverRegular : Cond.instanceMethod y_O_deliverRegular ∈ pv_T := pv_in 267 rfl rfl
set_option maxRecDepth 100000 in
theorem wc_O_deliverRegular : Cond.code y_O_deliverRegular c_O_deliverRegular 4 none ∈ pv_T := pv_in 268 rfl rfl
set_option maxRecDepth 100000 in
theorem wm_O_185 : Cond.methodLink R_O 185 y_O_isDeliverable ∈ pv_T := pv_in 269 rfl rfl
set_option maxRecDepth 100000 in
theorem wi_O_isDeliverable : Cond.instanceMethod y_O_isDeliverable ∈ pv_T := pv_in 271 rfl rfl
set_option maxRecDepth 100000 in
theorem wc_O_isDeliverable : Cond.code y_O_isDeliverable c_O_isDeliverable 4 (some .boolean) ∈ pv_T := pv_in 272 rfl rfl
set_option maxRecDepth 100000 in
theorem wm_O_189 : Cond.methodLink R_O 189 y_N_append ∈ pv_T := pv_in 273 rfl rfl
set_option maxRecDepth 100000 in
theorem wi_N_append : Cond.instanceMethod y_N_append ∈ pv_T := pv_in 274 rfl rfl
set_option maxRecDepth 100000 in
theorem we_N_append : Cond.selects R_N y_N_append y_N_append ∈ pv_T := pv_in 275 rfl rfl
set_option maxRecDepth 100000 in
theorem wc_N_append : Cond.code y_N_append c_N_append 2 none ∈ pv_T := pv_in 276 rfl rfl
set_option maxRecDepth 100000 in
theorem wm_O_92 : Cond.methodLink R_O 92 y_O_hasStranger ∈ pv_T := pv_in 277 rfl rfl
set_option maxRecDepth 100000 in
theorem wi_O_hasStranger : Cond.instanceMethod y_O_hasStranger ∈ pv_T := pv_in 279 rfl rfl
set_option maxRecDepth 100000 in
theorem wc_O_hasStranger : Cond.code y_O_hasStranger c_O_hasStranger 6 (some .boolean) ∈ pv_T := pv_in 280 rfl rfl
set_option maxRecDepth 100000 in
theorem wm_O_99 : Cond.methodLink R_O 99 y_O_formAnew ∈ pv_T := pv_in 281 rfl rfl
set_option maxRecDepth 100000 in
theorem wi_O_formAnew : Cond.instanceMethod y_O_formAnew ∈ pv_T := pv_in 283 rfl rfl
set_option maxRecDepth 100000 in
theorem wc_O_formAnew : Cond.code y_O_formAnew c_O_formAnew 8 none ∈ pv_T := pv_in 284 rfl rfl
set_option maxRecDepth 100000 in
theorem wm_O_201 : Cond.methodLink R_O 201 y_O_upNodesIn ∈ pv_T := pv_in 285 rfl rfl
set_option maxRecDepth 100000 in
theorem wi_O_upNodesIn : Cond.instanceMethod y_O_upNodesIn ∈ pv_T := pv_in 287 rfl rfl
set_option maxRecDepth 100000 in
theorem wc_O_upNodesIn : Cond.code y_O_upNodesIn c_O_upNodesIn 4 (some .int) ∈ pv_T := pv_in 288 rfl rfl
set_option maxRecDepth 100000 in
theorem wm_O_208 : Cond.methodLink R_O 208 y_O_deliverLeftOver ∈ pv_T := pv_in 289 rfl rfl
set_option maxRecDepth 100000 in
theorem wi_O_deliverLeftOver : Cond.instanceMethod y_O_deliverLeftOver ∈ pv_T := pv_in 291 rfl rfl
set_option maxRecDepth 100000 in
theorem wc_O_deliverLeftOver : Cond.code y_O_deliverLeftOver c_O_deliverLeftOver 7 none ∈ pv_T := pv_in 292 rfl rfl
set_option maxRecDepth 100000 in
theorem wm_O_219 : Cond.methodLink R_O 219 Lib.Math.max.name ∈ pv_T := pv_in 293 rfl rfl
set_option maxRecDepth 100000 in
theorem wm_O_225 : Cond.methodLink R_O 225 y_O_deliverTransitional ∈ pv_T := pv_in 294 rfl rfl
set_option maxRecDepth 100000 in
theorem wi_O_deliverTransitional : Cond.instanceMethod y_O_deliverTransitional ∈ pv_T := pv_in 296 rfl rfl
set_option maxRecDepth 100000 in
theorem wc_O_deliverTransitional : Cond.code y_O_deliverTransitional c_O_deliverTransitional 7 none ∈ pv_T := pv_in 297 rfl rfl
set_option maxRecDepth 100000 in
theorem wm_O_102 : Cond.methodLink R_O 102 y_O_passToken ∈ pv_T := pv_in 298 rfl rfl
set_option maxRecDepth 100000 in
theorem wi_O_passToken : Cond.instanceMethod y_O_passToken ∈ pv_T := pv_in 300 rfl rfl
set_option maxRecDepth 100000 in
theorem wc_O_passToken : Cond.code y_O_passToken c_O_passToken 4 none ∈ pv_T := pv_in 301 rfl rfl
set_option maxRecDepth 100000 in
theorem wm_O_197 : Cond.methodLink R_O 197 y_R_memberAfter ∈ pv_T := pv_in 302 rfl rfl
set_option maxRecDepth 100000 in
theorem wm_L_23 : Cond.methodLink R_L 23 y_O_tick ∈ pv_T := pv_in 303 rfl rfl
set_option maxRecDepth 100000 in
theorem wi_O_tick : Cond.instanceMethod y_O_tick ∈ pv_T := pv_in 304 rfl rfl
set_option maxRecDepth 100000 in
theorem we_O_tick : Cond.selects R_O y_O_tick y_O_tick ∈ pv_T := pv_in 305 rfl rfl
set_option maxRecDepth 100000 in
theorem wc_O_tick : Cond.code y_O_tick c_O_tick 3 (some .int) ∈ pv_T := pv_in 306 rfl rfl
set_option maxRecDepth 100000 in
theorem wm_L_27 : Cond.methodLink R_L 27 y_O_crash ∈ pv_T := pv_in 307 rfl rfl
set_option maxRecDepth 100000 in
theorem wi_O_crash : Cond.instanceMethod y_O_crash ∈ pv_T := pv_in 308 rfl rfl
set_option maxRecDepth 100000 in
theorem we_O_crash : Cond.selects R_O y_O_crash y_O_crash ∈ pv_T := pv_in 309 rfl rfl
set_option maxRecDepth 100000 in
theorem wc_O_crash : Cond.code y_O_crash c_O_crash 2 (some .boolean) ∈ pv_T := pv_in 310 rfl rfl
set_option maxRecDepth 100000 in
theorem wm_O_106 : Cond.methodLink R_O 106 y_O_isUpNode ∈ pv_T := pv_in 311 rfl rfl
set_option maxRecDepth 100000 in
theorem wi_O_isUpNode : Cond.instanceMethod y_O_isUpNode ∈ pv_T := pv_in 313 rfl rfl
set_option maxRecDepth 100000 in
theorem wc_O_isUpNode : Cond.code y_O_isUpNode c_O_isUpNode 2 (some .boolean) ∈ pv_T := pv_in 314 rfl rfl
set_option maxRecDepth 100000 in
theorem wm_O_109 : Cond.methodLink R_O 109 y_N_goDown ∈ pv_T := pv_in 315 rfl rfl
set_option maxRecDepth 100000 in
theorem wi_N_goDown : Cond.instanceMethod y_N_goDown ∈ pv_T := pv_in 316 rfl rfl
set_option maxRecDepth 100000 in
theorem we_N_goDown : Cond.selects R_N y_N_goDown y_N_goDown ∈ pv_T := pv_in 317 rfl rfl
set_option maxRecDepth 100000 in
theorem wc_N_goDown : Cond.code y_N_goDown c_N_goDown 1 none ∈ pv_T := pv_in 318 rfl rfl
set_option maxRecDepth 100000 in
theorem wm_L_32 : Cond.methodLink R_L 32 y_O_restart ∈ pv_T := pv_in 319 rfl rfl
set_option maxRecDepth 100000 in
theorem wi_O_restart : Cond.instanceMethod y_O_restart ∈ pv_T := pv_in 320 rfl rfl
set_option maxRecDepth 100000 in
theorem we_O_restart : Cond.selects R_O y_O_restart y_O_restart ∈ pv_T := pv_in 321 rfl rfl
set_option maxRecDepth 100000 in
theorem wc_O_restart : Cond.code y_O_restart c_O_restart 2 (some .boolean) ∈ pv_T := pv_in 322 rfl rfl
set_option maxRecDepth 100000 in
theorem wm_L_36 : Cond.methodLink R_L 36 y_O_place ∈ pv_T := pv_in 323 rfl rfl
set_option maxRecDepth 100000 in
theorem wi_O_place : Cond.instanceMethod y_O_place ∈ pv_T := pv_in 324 rfl rfl
set_option maxRecDepth 100000 in
theorem we_O_place : Cond.selects R_O y_O_place y_O_place ∈ pv_T := pv_in 325 rfl rfl
set_option maxRecDepth 100000 in
theorem wc_O_place : Cond.code y_O_place c_O_place 3 (some .boolean) ∈ pv_T := pv_in 326 rfl rfl
set_option maxRecDepth 100000 in
theorem wm_L_41 : Cond.methodLink R_L 41 y_O_deafen ∈ pv_T := pv_in 327 rfl rfl
set_option maxRecDepth 100000 in
theorem wi_O_deafen : Cond.instanceMethod y_O_deafen ∈ pv_T := pv_in 328 rfl rfl
set_option maxRecDepth 100000 in
theorem we_O_deafen : Cond.selects R_O y_O_deafen y_O_deafen ∈ pv_T := pv_in 329 rfl rfl
set_option maxRecDepth 100000 in
theorem wc_O_deafen : Cond.code y_O_deafen c_O_deafen 3 (some .boolean) ∈ pv_T := pv_in 330 rfl rfl
set_option maxRecDepth 100000 in
theorem wm_L_45 : Cond.methodLink R_L 45 y_O_drop ∈ pv_T := pv_in 331 rfl rfl
set_option maxRecDepth 100000 in
theorem wi_O_drop : Cond.instanceMethod y_O_drop ∈ pv_T := pv_in 332 rfl rfl
set_option maxRecDepth 100000 in
theorem we_O_drop : Cond.selects R_O y_O_drop y_O_drop ∈ pv_T := pv_in 333 rfl rfl
set_option maxRecDepth 100000 in
theorem wc_O_drop : Cond.code y_O_drop c_O_drop 3 (some .boolean) ∈ pv_T := pv_in 334 rfl rfl
set_option maxRecDepth 100000 in
theorem wm_O_115 : Cond.methodLink R_O 115 y_R_isTokenLost ∈ pv_T := pv_in 335 rfl rfl
set_option maxRecDepth 100000 in
theorem wi_R_isTokenLost : Cond.instanceMethod y_R_isTokenLost ∈ pv_T := pv_in 336 rfl rfl
set_option maxRecDepth 100000 in
theorem we_R_isTokenLost : Cond.selects R_R y_R_isTokenLost y_R_isTokenLost ∈ pv_T := pv_in 337 rfl rfl
set_option maxRecDepth 100000 in
theorem wc_R_isTokenLost : Cond.code y_R_isTokenLost c_R_isTokenLost 1 (some .boolean) ∈ pv_T := pv_in 338 rfl rfl
set_option maxRecDepth 100000 in
theorem wm_L_49 : Cond.methodLink R_L 49 y_O_ring ∈ pv_T := pv_in 339 rfl rfl
set_option maxRecDepth 100000 in
theorem wi_O_ring : Cond.instanceMethod y_O_ring ∈ pv_T := pv_in 340 rfl rfl
set_option maxRecDepth 100000 in
theorem we_O_ring : Cond.selects R_O y_O_ring y_O_ring ∈ pv_T := pv_in 341 rfl rfl
set_option maxRecDepth 100000 in
theorem wc_O_ring : Cond.code y_O_ring c_O_ring 3 (some .int) ∈ pv_T := pv_in 342 rfl rfl
set_option maxRecDepth 100000 in
theorem wm_L_53 : Cond.methodLink R_L 53 y_O_members ∈ pv_T := pv_in 343 rfl rfl
set_option maxRecDepth 100000 in
theorem wi_O_members : Cond.instanceMethod y_O_members ∈ pv_T := pv_in 344 rfl rfl
set_option maxRecDepth 100000 in
theorem we_O_members : Cond.selects R_O y_O_members y_O_members ∈ pv_T := pv_in 345 rfl rfl
set_option maxRecDepth 100000 in
theorem wc_O_members : Cond.code y_O_members c_O_members 3 (some .int) ∈ pv_T := pv_in 346 rfl rfl
set_option maxRecDepth 100000 in
theorem wm_L_57 : Cond.methodLink R_L 57 y_O_token ∈ pv_T := pv_in 347 rfl rfl
set_option maxRecDepth 100000 in
theorem wi_O_token : Cond.instanceMethod y_O_token ∈ pv_T := pv_in 348 rfl rfl
set_option maxRecDepth 100000 in
theorem we_O_token : Cond.selects R_O y_O_token y_O_token ∈ pv_T := pv_in 349 rfl rfl
set_option maxRecDepth 100000 in
theorem wc_O_token : Cond.code y_O_token c_O_token 3 (some .int) ∈ pv_T := pv_in 350 rfl rfl
set_option maxRecDepth 100000 in
theorem wm_L_61 : Cond.methodLink R_L 61 y_O_last ∈ pv_T := pv_in 351 rfl rfl
set_option maxRecDepth 100000 in
theorem wi_O_last : Cond.instanceMethod y_O_last ∈ pv_T := pv_in 352 rfl rfl
set_option maxRecDepth 100000 in
theorem we_O_last : Cond.selects R_O y_O_last y_O_last ∈ pv_T := pv_in 353 rfl rfl
set_option maxRecDepth 100000 in
theorem wc_O_last : Cond.code y_O_last c_O_last 3 (some .int) ∈ pv_T := pv_in 354 rfl rfl
set_option maxRecDepth 100000 in
theorem wm_L_65 : Cond.methodLink R_L 65 y_O_requests ∈ pv_T := pv_in 355 rfl rfl
set_option maxRecDepth 100000 in
theorem wi_O_requests : Cond.instanceMethod y_O_requests ∈ pv_T := pv_in 356 rfl rfl
set_option maxRecDepth 100000 in
theorem we_O_requests : Cond.selects R_O y_O_requests y_O_requests ∈ pv_T := pv_in 357 rfl rfl
set_option maxRecDepth 100000 in
theorem wc_O_requests : Cond.code y_O_requests c_O_requests 3 (some .int) ∈ pv_T := pv_in 358 rfl rfl
set_option maxRecDepth 100000 in
theorem wm_O_131 : Cond.methodLink R_O 131 y_J_bitCount ∈ pv_T := pv_in 359 rfl rfl
set_option maxRecDepth 100000 in
theorem ws_J_bitCount : Cond.static y_J_bitCount ∈ pv_T := pv_in 360 rfl rfl
set_option maxRecDepth 100000 in
theorem wc_J_bitCount : Cond.code y_J_bitCount c_J_bitCount 2 (some .int) ∈ pv_T := pv_in 361 rfl rfl
set_option maxRecDepth 100000 in
theorem wk_J_314 : Cond.constantLong R_J 314 (6148914691236517205 : Int64) ∈ pv_T := pv_in 362 rfl rfl
set_option maxRecDepth 100000 in
theorem wk_J_316 : Cond.constantLong R_J 316 (3689348814741910323 : Int64) ∈ pv_T := pv_in 363 rfl rfl
set_option maxRecDepth 100000 in
theorem wk_J_318 : Cond.constantLong R_J 318 (1085102592571150095 : Int64) ∈ pv_T := pv_in 364 rfl rfl
set_option maxRecDepth 100000 in
theorem wm_L_69 : Cond.methodLink R_L 69 y_O_reach ∈ pv_T := pv_in 365 rfl rfl
set_option maxRecDepth 100000 in
theorem wi_O_reach : Cond.instanceMethod y_O_reach ∈ pv_T := pv_in 366 rfl rfl
set_option maxRecDepth 100000 in
theorem we_O_reach : Cond.selects R_O y_O_reach y_O_reach ∈ pv_T := pv_in 367 rfl rfl
set_option maxRecDepth 100000 in
theorem wc_O_reach : Cond.code y_O_reach c_O_reach 3 (some .int) ∈ pv_T := pv_in 368 rfl rfl
set_option maxRecDepth 100000 in
theorem wm_O_137 : Cond.methodLink R_O 137 y_N_heldWithoutGap ∈ pv_T := pv_in 369 rfl rfl
set_option maxRecDepth 100000 in
theorem wm_L_73 : Cond.methodLink R_L 73 y_O_line ∈ pv_T := pv_in 370 rfl rfl
set_option maxRecDepth 100000 in
theorem wi_O_line : Cond.instanceMethod y_O_line ∈ pv_T := pv_in 371 rfl rfl
set_option maxRecDepth 100000 in
theorem we_O_line : Cond.selects R_O y_O_line y_O_line ∈ pv_T := pv_in 372 rfl rfl
set_option maxRecDepth 100000 in
theorem wc_O_line : Cond.code y_O_line c_O_line 3 (some .int) ∈ pv_T := pv_in 373 rfl rfl
set_option maxRecDepth 100000 in
theorem wm_L_77 : Cond.methodLink R_L 77 y_O_waiting ∈ pv_T := pv_in 374 rfl rfl
set_option maxRecDepth 100000 in
theorem wi_O_waiting : Cond.instanceMethod y_O_waiting ∈ pv_T := pv_in 375 rfl rfl
set_option maxRecDepth 100000 in
theorem we_O_waiting : Cond.selects R_O y_O_waiting y_O_waiting ∈ pv_T := pv_in 376 rfl rfl
set_option maxRecDepth 100000 in
theorem wc_O_waiting : Cond.code y_O_waiting c_O_waiting 3 (some .int) ∈ pv_T := pv_in 377 rfl rfl
set_option maxRecDepth 100000 in
theorem wm_L_81 : Cond.methodLink R_L 81 y_O_delivered ∈ pv_T := pv_in 378 rfl rfl
set_option maxRecDepth 100000 in
theorem wi_O_delivered : Cond.instanceMethod y_O_delivered ∈ pv_T := pv_in 379 rfl rfl
set_option maxRecDepth 100000 in
theorem we_O_delivered : Cond.selects R_O y_O_delivered y_O_delivered ∈ pv_T := pv_in 380 rfl rfl
set_option maxRecDepth 100000 in
theorem wc_O_delivered : Cond.code y_O_delivered c_O_delivered 2 (some .int) ∈ pv_T := pv_in 381 rfl rfl
set_option maxRecDepth 100000 in
theorem wm_L_85 : Cond.methodLink R_L 85 y_O_log ∈ pv_T := pv_in 382 rfl rfl
set_option maxRecDepth 100000 in
theorem wi_O_log : Cond.instanceMethod y_O_log ∈ pv_T := pv_in 383 rfl rfl
set_option maxRecDepth 100000 in
theorem we_O_log : Cond.selects R_O y_O_log y_O_log ∈ pv_T := pv_in 384 rfl rfl
set_option maxRecDepth 100000 in
theorem wc_O_log : Cond.code y_O_log c_O_log 4 (some .int) ∈ pv_T := pv_in 385 rfl rfl
set_option maxRecDepth 100000 in
theorem wm_L_90 : Cond.methodLink R_L 90 y_O_stamp ∈ pv_T := pv_in 386 rfl rfl
set_option maxRecDepth 100000 in
theorem wi_O_stamp : Cond.instanceMethod y_O_stamp ∈ pv_T := pv_in 387 rfl rfl
set_option maxRecDepth 100000 in
theorem we_O_stamp : Cond.selects R_O y_O_stamp y_O_stamp ∈ pv_T := pv_in 388 rfl rfl
set_option maxRecDepth 100000 in
theorem wc_O_stamp : Cond.code y_O_stamp c_O_stamp 2 (some .int) ∈ pv_T := pv_in 389 rfl rfl
set_option maxRecDepth 100000 in
theorem wl_L_10 : Cond.classLink R_L 10 R_Y ∈ pv_T := pv_in 390 rfl rfl
set_option maxRecDepth 100000 in
theorem wt_Y : Cond.instantiable R_Y 22 ∈ pv_T := pv_in 391 rfl rfl
set_option maxRecDepth 100000 in
theorem wm_L_12 : Cond.methodLink R_L 12 y_Y_init ∈ pv_T := pv_in 392 rfl rfl
set_option maxRecDepth 100000 in
theorem wi_Y_init : Cond.instanceMethod y_Y_init ∈ pv_T := pv_in 393 rfl rfl
set_option maxRecDepth 100000 in
theorem wc_Y_init : Cond.code y_Y_init c_Y_init 2 none ∈ pv_T := pv_in 394 rfl rfl
set_option maxRecDepth 100000 in
theorem wm_Y_1 : Cond.methodLink R_Y 1 objectInit ∈ pv_T := pv_in 395 rfl rfl
set_option maxRecDepth 100000 in
theorem wf_Y_7 : Cond.fieldLink R_Y 7 "RotatingTokenGroupModel" "up" "[Z" ∈ pv_T := pv_in 396 rfl rfl
set_option maxRecDepth 100000 in
theorem wf_Y_13 : Cond.fieldLink R_Y 13 "RotatingTokenGroupModel" "area" "[I" ∈ pv_T := pv_in 397 rfl rfl
set_option maxRecDepth 100000 in
theorem wf_Y_17 : Cond.fieldLink R_Y 17 "RotatingTokenGroupModel" "ringOf" "[I" ∈ pv_T := pv_in 398 rfl rfl
set_option maxRecDepth 100000 in
theorem wf_Y_20 : Cond.fieldLink R_Y 20 "RotatingTokenGroupModel" "lineOf" "[I" ∈ pv_T := pv_in 399 rfl rfl
set_option maxRecDepth 100000 in
theorem wf_Y_23 : Cond.fieldLink R_Y 23 "RotatingTokenGroupModel" "placeOf" "[I" ∈ pv_T := pv_in 400 rfl rfl
set_option maxRecDepth 100000 in
theorem wf_Y_26 : Cond.fieldLink R_Y 26 "RotatingTokenGroupModel" "deaf" "[I" ∈ pv_T := pv_in 401 rfl rfl
set_option maxRecDepth 100000 in
theorem wf_Y_29 : Cond.fieldLink R_Y 29 "RotatingTokenGroupModel" "timer" "[I" ∈ pv_T := pv_in 402 rfl rfl
set_option maxRecDepth 100000 in
theorem wf_Y_32 : Cond.fieldLink R_Y 32 "RotatingTokenGroupModel" "hold" "[Z" ∈ pv_T := pv_in 403 rfl rfl
set_option maxRecDepth 100000 in
theorem wf_Y_35 : Cond.fieldLink R_Y 35 "RotatingTokenGroupModel" "logs" "[I" ∈ pv_T := pv_in 404 rfl rfl
set_option maxRecDepth 100000 in
theorem wf_Y_38 : Cond.fieldLink R_Y 38 "RotatingTokenGroupModel" "entries" "[I" ∈ pv_T := pv_in 405 rfl rfl
set_option maxRecDepth 100000 in
theorem wf_Y_80 : Cond.fieldLink R_Y 80 "RotatingTokenGroupModel" "messages" "I" ∈ pv_T := pv_in 406 rfl rfl
set_option maxRecDepth 100000 in
theorem wf_Y_41 : Cond.fieldLink R_Y 41 "RotatingTokenGroupModel" "origin" "[I" ∈ pv_T := pv_in 407 rfl rfl
set_option maxRecDepth 100000 in
theorem wf_Y_44 : Cond.fieldLink R_Y 44 "RotatingTokenGroupModel" "isSafe" "[Z" ∈ pv_T := pv_in 408 rfl rfl
set_option maxRecDepth 100000 in
theorem wf_Y_47 : Cond.fieldLink R_Y 47 "RotatingTokenGroupModel" "gone" "[Z" ∈ pv_T := pv_in 409 rfl rfl
set_option maxRecDepth 100000 in
theorem wf_Y_50 : Cond.fieldLink R_Y 50 "RotatingTokenGroupModel" "ringIn" "[I" ∈ pv_T := pv_in 410 rfl rfl
set_option maxRecDepth 100000 in
theorem wf_Y_53 : Cond.fieldLink R_Y 53 "RotatingTokenGroupModel" "number" "[I" ∈ pv_T := pv_in 411 rfl rfl
set_option maxRecDepth 100000 in
theorem wf_Y_72 : Cond.fieldLink R_Y 72 "RotatingTokenGroupModel" "rings" "I" ∈ pv_T := pv_in 412 rfl rfl
set_option maxRecDepth 100000 in
theorem wf_Y_56 : Cond.fieldLink R_Y 56 "RotatingTokenGroupModel" "at" "[I" ∈ pv_T := pv_in 413 rfl rfl
set_option maxRecDepth 100000 in
theorem wf_Y_59 : Cond.fieldLink R_Y 59 "RotatingTokenGroupModel" "latest" "[I" ∈ pv_T := pv_in 414 rfl rfl
set_option maxRecDepth 100000 in
theorem wf_Y_62 : Cond.fieldLink R_Y 62 "RotatingTokenGroupModel" "memberBits" "[I" ∈ pv_T := pv_in 415 rfl rfl
set_option maxRecDepth 100000 in
theorem wf_Y_65 : Cond.fieldLink R_Y 65 "RotatingTokenGroupModel" "marks" "[I" ∈ pv_T := pv_in 416 rfl rfl
set_option maxRecDepth 100000 in
theorem wf_Y_68 : Cond.fieldLink R_Y 68 "RotatingTokenGroupModel" "wanted" "[J" ∈ pv_T := pv_in 417 rfl rfl
set_option maxRecDepth 100000 in
theorem wa_long : Cond.arrayClass Jvm.ClassFile.FieldType.long ∈ pv_T := pv_in 463 rfl rfl
set_option maxRecDepth 100000 in
theorem wm_L_17 : Cond.methodLink R_L 17 y_Y_send ∈ pv_T := pv_in 464 rfl rfl
set_option maxRecDepth 100000 in
theorem wi_Y_send : Cond.instanceMethod y_Y_send ∈ pv_T := pv_in 465 rfl rfl
set_option maxRecDepth 100000 in
theorem we_Y_send : Cond.selects R_Y y_Y_send y_Y_send ∈ pv_T := pv_in 466 rfl rfl
set_option maxRecDepth 100000 in
theorem wc_Y_send : Cond.code y_Y_send c_Y_send 4 (some .int) ∈ pv_T := pv_in 467 rfl rfl
set_option maxRecDepth 100000 in
theorem wm_Y_91 : Cond.methodLink R_Y 91 y_Y_refuse ∈ pv_T := pv_in 468 rfl rfl
set_option maxRecDepth 100000 in
theorem wi_Y_refuse : Cond.instanceMethod y_Y_refuse ∈ pv_T := pv_in 470 rfl rfl
set_option maxRecDepth 100000 in
theorem wc_Y_refuse : Cond.code y_Y_refuse c_Y_refuse 2 (some .int) ∈ pv_T := pv_in 471 rfl rfl
set_option maxRecDepth 100000 in
theorem wm_Y_76 : Cond.methodLink R_Y 76 y_Y_outside ∈ pv_T := pv_in 472 rfl rfl
set_option maxRecDepth 100000 in
theorem ws_Y_outside : Cond.static y_Y_outside ∈ pv_T := pv_in 473 rfl rfl
set_option maxRecDepth 100000 in
theorem wc_Y_outside : Cond.code y_Y_outside c_Y_outside 1 (some .boolean) ∈ pv_T := pv_in 474 rfl rfl
set_option maxRecDepth 100000 in
theorem wm_Y_95 : Cond.methodLink R_Y 95 y_Y_queued ∈ pv_T := pv_in 475 rfl rfl
set_option maxRecDepth 100000 in
theorem wi_Y_queued : Cond.instanceMethod y_Y_queued ∈ pv_T := pv_in 477 rfl rfl
set_option maxRecDepth 100000 in
theorem wc_Y_queued : Cond.code y_Y_queued c_Y_queued 4 (some .int) ∈ pv_T := pv_in 478 rfl rfl
set_option maxRecDepth 100000 in
theorem wm_L_22 : Cond.methodLink R_L 22 y_Y_visit ∈ pv_T := pv_in 479 rfl rfl
set_option maxRecDepth 100000 in
theorem wi_Y_visit : Cond.instanceMethod y_Y_visit ∈ pv_T := pv_in 480 rfl rfl
set_option maxRecDepth 100000 in
theorem we_Y_visit : Cond.selects R_Y y_Y_visit y_Y_visit ∈ pv_T := pv_in 481 rfl rfl
set_option maxRecDepth 100000 in
theorem wc_Y_visit : Cond.code y_Y_visit c_Y_visit 9 (some .int) ∈ pv_T := pv_in 482 rfl rfl
set_option maxRecDepth 100000 in
theorem wm_Y_113 : Cond.methodLink R_Y 113 y_Y_sendAgain ∈ pv_T := pv_in 483 rfl rfl
set_option maxRecDepth 100000 in
theorem wi_Y_sendAgain : Cond.instanceMethod y_Y_sendAgain ∈ pv_T := pv_in 485 rfl rfl
set_option maxRecDepth 100000 in
theorem wc_Y_sendAgain : Cond.code y_Y_sendAgain c_Y_sendAgain 7 (some .int) ∈ pv_T := pv_in 486 rfl rfl
set_option maxRecDepth 100000 in
theorem wm_Y_87 : Cond.methodLink R_Y 87 y_Y_has ∈ pv_T := pv_in 487 rfl rfl
set_option maxRecDepth 100000 in
theorem wi_Y_has : Cond.instanceMethod y_Y_has ∈ pv_T := pv_in 489 rfl rfl
set_option maxRecDepth 100000 in
theorem wc_Y_has : Cond.code y_Y_has c_Y_has 4 (some .boolean) ∈ pv_T := pv_in 490 rfl rfl
set_option maxRecDepth 100000 in
theorem wm_Y_83 : Cond.methodLink R_Y 83 y_Y_message ∈ pv_T := pv_in 491 rfl rfl
set_option maxRecDepth 100000 in
theorem wi_Y_message : Cond.instanceMethod y_Y_message ∈ pv_T := pv_in 493 rfl rfl
set_option maxRecDepth 100000 in
theorem wc_Y_message : Cond.code y_Y_message c_Y_message 4 (some .int) ∈ pv_T := pv_in 494 rfl rfl
set_option maxRecDepth 100000 in
theorem wk_Y_105 : Cond.constantLong R_Y 105 (-1 : Int64) ∈ pv_T := pv_in 495 rfl rfl
set_option maxRecDepth 100000 in
theorem wm_Y_107 : Cond.methodLink R_Y 107 y_Y_broadcast ∈ pv_T := pv_in 496 rfl rfl
set_option maxRecDepth 100000 in
theorem wi_Y_broadcast : Cond.instanceMethod y_Y_broadcast ∈ pv_T := pv_in 498 rfl rfl
set_option maxRecDepth 100000 in
theorem wc_Y_broadcast : Cond.code y_Y_broadcast c_Y_broadcast 4 none ∈ pv_T := pv_in 499 rfl rfl
set_option maxRecDepth 100000 in
theorem wm_Y_98 : Cond.methodLink R_Y 98 y_Y_hears ∈ pv_T := pv_in 500 rfl rfl
set_option maxRecDepth 100000 in
theorem wi_Y_hears : Cond.instanceMethod y_Y_hears ∈ pv_T := pv_in 502 rfl rfl
set_option maxRecDepth 100000 in
theorem wc_Y_hears : Cond.code y_Y_hears c_Y_hears 3 (some .boolean) ∈ pv_T := pv_in 503 rfl rfl
set_option maxRecDepth 100000 in
theorem wm_Y_116 : Cond.methodLink R_Y 116 y_Y_sendNew ∈ pv_T := pv_in 504 rfl rfl
set_option maxRecDepth 100000 in
theorem wi_Y_sendNew : Cond.instanceMethod y_Y_sendNew ∈ pv_T := pv_in 506 rfl rfl
set_option maxRecDepth 100000 in
theorem wc_Y_sendNew : Cond.code y_Y_sendNew c_Y_sendNew 6 (some .int) ∈ pv_T := pv_in 507 rfl rfl
set_option maxRecDepth 100000 in
theorem wm_Y_110 : Cond.methodLink R_Y 110 y_Y_first ∈ pv_T := pv_in 508 rfl rfl
set_option maxRecDepth 100000 in
theorem wi_Y_first : Cond.instanceMethod y_Y_first ∈ pv_T := pv_in 510 rfl rfl
set_option maxRecDepth 100000 in
theorem wc_Y_first : Cond.code y_Y_first c_Y_first 3 (some .int) ∈ pv_T := pv_in 511 rfl rfl
set_option maxRecDepth 100000 in
theorem wm_Y_119 : Cond.methodLink R_Y 119 y_Y_reachOf ∈ pv_T := pv_in 512 rfl rfl
set_option maxRecDepth 100000 in
theorem wi_Y_reachOf : Cond.instanceMethod y_Y_reachOf ∈ pv_T := pv_in 514 rfl rfl
set_option maxRecDepth 100000 in
theorem wc_Y_reachOf : Cond.code y_Y_reachOf c_Y_reachOf 3 (some .int) ∈ pv_T := pv_in 515 rfl rfl
set_option maxRecDepth 100000 in
theorem wm_Y_122 : Cond.methodLink R_Y 122 y_Y_deliver ∈ pv_T := pv_in 516 rfl rfl
set_option maxRecDepth 100000 in
theorem wi_Y_deliver : Cond.instanceMethod y_Y_deliver ∈ pv_T := pv_in 518 rfl rfl
set_option maxRecDepth 100000 in
theorem wc_Y_deliver : Cond.code y_Y_deliver c_Y_deliver 6 none ∈ pv_T := pv_in 519 rfl rfl
set_option maxRecDepth 100000 in
theorem wm_Y_101 : Cond.methodLink R_Y 101 y_Y_append ∈ pv_T := pv_in 520 rfl rfl
set_option maxRecDepth 100000 in
theorem wi_Y_append : Cond.instanceMethod y_Y_append ∈ pv_T := pv_in 522 rfl rfl
set_option maxRecDepth 100000 in
theorem wc_Y_append : Cond.code y_Y_append c_Y_append 3 none ∈ pv_T := pv_in 523 rfl rfl
set_option maxRecDepth 100000 in
theorem wm_Y_126 : Cond.methodLink R_Y 126 y_Y_stranger ∈ pv_T := pv_in 524 rfl rfl
set_option maxRecDepth 100000 in
theorem wi_Y_stranger : Cond.instanceMethod y_Y_stranger ∈ pv_T := pv_in 526 rfl rfl
set_option maxRecDepth 100000 in
theorem wc_Y_stranger : Cond.code y_Y_stranger c_Y_stranger 4 (some .boolean) ∈ pv_T := pv_in 527 rfl rfl
set_option maxRecDepth 100000 in
theorem wm_Y_129 : Cond.methodLink R_Y 129 y_Y_form ∈ pv_T := pv_in 528 rfl rfl
set_option maxRecDepth 100000 in
theorem wi_Y_form : Cond.instanceMethod y_Y_form ∈ pv_T := pv_in 530 rfl rfl
set_option maxRecDepth 100000 in
theorem wc_Y_form : Cond.code y_Y_form c_Y_form 7 none ∈ pv_T := pv_in 531 rfl rfl
set_option maxRecDepth 100000 in
theorem wm_Y_141 : Cond.methodLink R_Y 141 y_Y_together ∈ pv_T := pv_in 532 rfl rfl
set_option maxRecDepth 100000 in
theorem wi_Y_together : Cond.instanceMethod y_Y_together ∈ pv_T := pv_in 534 rfl rfl
set_option maxRecDepth 100000 in
theorem wc_Y_together : Cond.code y_Y_together c_Y_together 5 (some .int) ∈ pv_T := pv_in 535 rfl rfl
set_option maxRecDepth 100000 in
theorem wm_Y_144 : Cond.methodLink R_Y 144 y_Y_share ∈ pv_T := pv_in 536 rfl rfl
set_option maxRecDepth 100000 in
theorem wi_Y_share : Cond.instanceMethod y_Y_share ∈ pv_T := pv_in 538 rfl rfl
set_option maxRecDepth 100000 in
theorem wc_Y_share : Cond.code y_Y_share c_Y_share 6 none ∈ pv_T := pv_in 539 rfl rfl
set_option maxRecDepth 100000 in
theorem wm_Y_138 : Cond.methodLink R_Y 138 y_Y_finish ∈ pv_T := pv_in 540 rfl rfl
set_option maxRecDepth 100000 in
theorem wi_Y_finish : Cond.instanceMethod y_Y_finish ∈ pv_T := pv_in 542 rfl rfl
set_option maxRecDepth 100000 in
theorem wc_Y_finish : Cond.code y_Y_finish c_Y_finish 7 none ∈ pv_T := pv_in 543 rfl rfl
set_option maxRecDepth 100000 in
theorem wm_Y_147 : Cond.methodLink R_Y 147 y_Y_newRing ∈ pv_T := pv_in 544 rfl rfl
set_option maxRecDepth 100000 in
theorem wi_Y_newRing : Cond.instanceMethod y_Y_newRing ∈ pv_T := pv_in 546 rfl rfl
set_option maxRecDepth 100000 in
theorem wc_Y_newRing : Cond.code y_Y_newRing c_Y_newRing 3 none ∈ pv_T := pv_in 547 rfl rfl
set_option maxRecDepth 100000 in
theorem wm_Y_150 : Cond.methodLink R_Y 150 y_Y_enter ∈ pv_T := pv_in 548 rfl rfl
set_option maxRecDepth 100000 in
theorem wi_Y_enter : Cond.instanceMethod y_Y_enter ∈ pv_T := pv_in 550 rfl rfl
set_option maxRecDepth 100000 in
theorem wc_Y_enter : Cond.code y_Y_enter c_Y_enter 3 none ∈ pv_T := pv_in 551 rfl rfl
set_option maxRecDepth 100000 in
theorem wm_Y_135 : Cond.methodLink R_Y 135 y_Y_clean ∈ pv_T := pv_in 552 rfl rfl
set_option maxRecDepth 100000 in
theorem wi_Y_clean : Cond.instanceMethod y_Y_clean ∈ pv_T := pv_in 554 rfl rfl
set_option maxRecDepth 100000 in
theorem wc_Y_clean : Cond.code y_Y_clean c_Y_clean 3 none ∈ pv_T := pv_in 555 rfl rfl
set_option maxRecDepth 100000 in
theorem wm_Y_132 : Cond.methodLink R_Y 132 y_Y_passOn ∈ pv_T := pv_in 556 rfl rfl
set_option maxRecDepth 100000 in
theorem wi_Y_passOn : Cond.instanceMethod y_Y_passOn ∈ pv_T := pv_in 558 rfl rfl
set_option maxRecDepth 100000 in
theorem wc_Y_passOn : Cond.code y_Y_passOn c_Y_passOn 6 none ∈ pv_T := pv_in 559 rfl rfl
set_option maxRecDepth 100000 in
theorem wm_L_26 : Cond.methodLink R_L 26 y_Y_tick ∈ pv_T := pv_in 560 rfl rfl
set_option maxRecDepth 100000 in
theorem wi_Y_tick : Cond.instanceMethod y_Y_tick ∈ pv_T := pv_in 561 rfl rfl
set_option maxRecDepth 100000 in
theorem we_Y_tick : Cond.selects R_Y y_Y_tick y_Y_tick ∈ pv_T := pv_in 562 rfl rfl
set_option maxRecDepth 100000 in
theorem wc_Y_tick : Cond.code y_Y_tick c_Y_tick 3 (some .int) ∈ pv_T := pv_in 563 rfl rfl
set_option maxRecDepth 100000 in
theorem wm_L_31 : Cond.methodLink R_L 31 y_Y_crash ∈ pv_T := pv_in 564 rfl rfl
set_option maxRecDepth 100000 in
theorem wi_Y_crash : Cond.instanceMethod y_Y_crash ∈ pv_T := pv_in 565 rfl rfl
set_option maxRecDepth 100000 in
theorem we_Y_crash : Cond.selects R_Y y_Y_crash y_Y_crash ∈ pv_T := pv_in 566 rfl rfl
set_option maxRecDepth 100000 in
theorem wc_Y_crash : Cond.code y_Y_crash c_Y_crash 4 (some .boolean) ∈ pv_T := pv_in 567 rfl rfl
set_option maxRecDepth 100000 in
theorem wm_L_35 : Cond.methodLink R_L 35 y_Y_restart ∈ pv_T := pv_in 568 rfl rfl
set_option maxRecDepth 100000 in
theorem wi_Y_restart : Cond.instanceMethod y_Y_restart ∈ pv_T := pv_in 569 rfl rfl
set_option maxRecDepth 100000 in
theorem we_Y_restart : Cond.selects R_Y y_Y_restart y_Y_restart ∈ pv_T := pv_in 570 rfl rfl
set_option maxRecDepth 100000 in
theorem wc_Y_restart : Cond.code y_Y_restart c_Y_restart 2 (some .boolean) ∈ pv_T := pv_in 571 rfl rfl
set_option maxRecDepth 100000 in
theorem wm_L_40 : Cond.methodLink R_L 40 y_Y_place ∈ pv_T := pv_in 572 rfl rfl
set_option maxRecDepth 100000 in
theorem wi_Y_place : Cond.instanceMethod y_Y_place ∈ pv_T := pv_in 573 rfl rfl
set_option maxRecDepth 100000 in
theorem we_Y_place : Cond.selects R_Y y_Y_place y_Y_place ∈ pv_T := pv_in 574 rfl rfl
set_option maxRecDepth 100000 in
theorem wc_Y_place : Cond.code y_Y_place c_Y_place 3 (some .boolean) ∈ pv_T := pv_in 575 rfl rfl
set_option maxRecDepth 100000 in
theorem wm_L_44 : Cond.methodLink R_L 44 y_Y_deafen ∈ pv_T := pv_in 576 rfl rfl
set_option maxRecDepth 100000 in
theorem wi_Y_deafen : Cond.instanceMethod y_Y_deafen ∈ pv_T := pv_in 577 rfl rfl
set_option maxRecDepth 100000 in
theorem we_Y_deafen : Cond.selects R_Y y_Y_deafen y_Y_deafen ∈ pv_T := pv_in 578 rfl rfl
set_option maxRecDepth 100000 in
theorem wc_Y_deafen : Cond.code y_Y_deafen c_Y_deafen 3 (some .boolean) ∈ pv_T := pv_in 579 rfl rfl
set_option maxRecDepth 100000 in
theorem wm_L_48 : Cond.methodLink R_L 48 y_Y_drop ∈ pv_T := pv_in 580 rfl rfl
set_option maxRecDepth 100000 in
theorem wi_Y_drop : Cond.instanceMethod y_Y_drop ∈ pv_T := pv_in 581 rfl rfl
set_option maxRecDepth 100000 in
theorem we_Y_drop : Cond.selects R_Y y_Y_drop y_Y_drop ∈ pv_T := pv_in 582 rfl rfl
set_option maxRecDepth 100000 in
theorem wc_Y_drop : Cond.code y_Y_drop c_Y_drop 2 (some .boolean) ∈ pv_T := pv_in 583 rfl rfl
set_option maxRecDepth 100000 in
theorem wm_L_52 : Cond.methodLink R_L 52 y_Y_ring ∈ pv_T := pv_in 584 rfl rfl
set_option maxRecDepth 100000 in
theorem wi_Y_ring : Cond.instanceMethod y_Y_ring ∈ pv_T := pv_in 585 rfl rfl
set_option maxRecDepth 100000 in
theorem we_Y_ring : Cond.selects R_Y y_Y_ring y_Y_ring ∈ pv_T := pv_in 586 rfl rfl
set_option maxRecDepth 100000 in
theorem wc_Y_ring : Cond.code y_Y_ring c_Y_ring 3 (some .int) ∈ pv_T := pv_in 587 rfl rfl
set_option maxRecDepth 100000 in
theorem wm_L_56 : Cond.methodLink R_L 56 y_Y_members ∈ pv_T := pv_in 588 rfl rfl
set_option maxRecDepth 100000 in
theorem wi_Y_members : Cond.instanceMethod y_Y_members ∈ pv_T := pv_in 589 rfl rfl
set_option maxRecDepth 100000 in
theorem we_Y_members : Cond.selects R_Y y_Y_members y_Y_members ∈ pv_T := pv_in 590 rfl rfl
set_option maxRecDepth 100000 in
theorem wc_Y_members : Cond.code y_Y_members c_Y_members 3 (some .int) ∈ pv_T := pv_in 591 rfl rfl
set_option maxRecDepth 100000 in
theorem wm_L_60 : Cond.methodLink R_L 60 y_Y_token ∈ pv_T := pv_in 592 rfl rfl
set_option maxRecDepth 100000 in
theorem wi_Y_token : Cond.instanceMethod y_Y_token ∈ pv_T := pv_in 593 rfl rfl
set_option maxRecDepth 100000 in
theorem we_Y_token : Cond.selects R_Y y_Y_token y_Y_token ∈ pv_T := pv_in 594 rfl rfl
set_option maxRecDepth 100000 in
theorem wc_Y_token : Cond.code y_Y_token c_Y_token 3 (some .int) ∈ pv_T := pv_in 595 rfl rfl
set_option maxRecDepth 100000 in
theorem wm_L_64 : Cond.methodLink R_L 64 y_Y_last ∈ pv_T := pv_in 596 rfl rfl
set_option maxRecDepth 100000 in
theorem wi_Y_last : Cond.instanceMethod y_Y_last ∈ pv_T := pv_in 597 rfl rfl
set_option maxRecDepth 100000 in
theorem we_Y_last : Cond.selects R_Y y_Y_last y_Y_last ∈ pv_T := pv_in 598 rfl rfl
set_option maxRecDepth 100000 in
theorem wc_Y_last : Cond.code y_Y_last c_Y_last 3 (some .int) ∈ pv_T := pv_in 599 rfl rfl
set_option maxRecDepth 100000 in
theorem wm_L_68 : Cond.methodLink R_L 68 y_Y_requests ∈ pv_T := pv_in 600 rfl rfl
set_option maxRecDepth 100000 in
theorem wi_Y_requests : Cond.instanceMethod y_Y_requests ∈ pv_T := pv_in 601 rfl rfl
set_option maxRecDepth 100000 in
theorem we_Y_requests : Cond.selects R_Y y_Y_requests y_Y_requests ∈ pv_T := pv_in 602 rfl rfl
set_option maxRecDepth 100000 in
theorem wc_Y_requests : Cond.code y_Y_requests c_Y_requests 6 (some .int) ∈ pv_T := pv_in 603 rfl rfl
set_option maxRecDepth 100000 in
theorem wm_L_72 : Cond.methodLink R_L 72 y_Y_reach ∈ pv_T := pv_in 604 rfl rfl
set_option maxRecDepth 100000 in
theorem wi_Y_reach : Cond.instanceMethod y_Y_reach ∈ pv_T := pv_in 605 rfl rfl
set_option maxRecDepth 100000 in
theorem we_Y_reach : Cond.selects R_Y y_Y_reach y_Y_reach ∈ pv_T := pv_in 606 rfl rfl
set_option maxRecDepth 100000 in
theorem wc_Y_reach : Cond.code y_Y_reach c_Y_reach 3 (some .int) ∈ pv_T := pv_in 607 rfl rfl
set_option maxRecDepth 100000 in
theorem wm_L_76 : Cond.methodLink R_L 76 y_Y_line ∈ pv_T := pv_in 608 rfl rfl
set_option maxRecDepth 100000 in
theorem wi_Y_line : Cond.instanceMethod y_Y_line ∈ pv_T := pv_in 609 rfl rfl
set_option maxRecDepth 100000 in
theorem we_Y_line : Cond.selects R_Y y_Y_line y_Y_line ∈ pv_T := pv_in 610 rfl rfl
set_option maxRecDepth 100000 in
theorem wc_Y_line : Cond.code y_Y_line c_Y_line 3 (some .int) ∈ pv_T := pv_in 611 rfl rfl
set_option maxRecDepth 100000 in
theorem wm_L_80 : Cond.methodLink R_L 80 y_Y_waiting ∈ pv_T := pv_in 612 rfl rfl
set_option maxRecDepth 100000 in
theorem wi_Y_waiting : Cond.instanceMethod y_Y_waiting ∈ pv_T := pv_in 613 rfl rfl
set_option maxRecDepth 100000 in
theorem we_Y_waiting : Cond.selects R_Y y_Y_waiting y_Y_waiting ∈ pv_T := pv_in 614 rfl rfl
set_option maxRecDepth 100000 in
theorem wc_Y_waiting : Cond.code y_Y_waiting c_Y_waiting 3 (some .int) ∈ pv_T := pv_in 615 rfl rfl
set_option maxRecDepth 100000 in
theorem wm_L_84 : Cond.methodLink R_L 84 y_Y_delivered ∈ pv_T := pv_in 616 rfl rfl
set_option maxRecDepth 100000 in
theorem wi_Y_delivered : Cond.instanceMethod y_Y_delivered ∈ pv_T := pv_in 617 rfl rfl
set_option maxRecDepth 100000 in
theorem we_Y_delivered : Cond.selects R_Y y_Y_delivered y_Y_delivered ∈ pv_T := pv_in 618 rfl rfl
set_option maxRecDepth 100000 in
theorem wc_Y_delivered : Cond.code y_Y_delivered c_Y_delivered 2 (some .int) ∈ pv_T := pv_in 619 rfl rfl
set_option maxRecDepth 100000 in
theorem wm_L_89 : Cond.methodLink R_L 89 y_Y_log ∈ pv_T := pv_in 620 rfl rfl
set_option maxRecDepth 100000 in
theorem wi_Y_log : Cond.instanceMethod y_Y_log ∈ pv_T := pv_in 621 rfl rfl
set_option maxRecDepth 100000 in
theorem we_Y_log : Cond.selects R_Y y_Y_log y_Y_log ∈ pv_T := pv_in 622 rfl rfl
set_option maxRecDepth 100000 in
theorem wc_Y_log : Cond.code y_Y_log c_Y_log 3 (some .int) ∈ pv_T := pv_in 623 rfl rfl
set_option maxRecDepth 100000 in
theorem wm_L_93 : Cond.methodLink R_L 93 y_Y_stamp ∈ pv_T := pv_in 624 rfl rfl
set_option maxRecDepth 100000 in
theorem wi_Y_stamp : Cond.instanceMethod y_Y_stamp ∈ pv_T := pv_in 625 rfl rfl
set_option maxRecDepth 100000 in
theorem we_Y_stamp : Cond.selects R_Y y_Y_stamp y_Y_stamp ∈ pv_T := pv_in 626 rfl rfl
set_option maxRecDepth 100000 in
theorem wc_Y_stamp : Cond.code y_Y_stamp c_Y_stamp 2 (some .int) ∈ pv_T := pv_in 627 rfl rfl
theorem we_O_enterNewRing : Cond.selects R_O y_O_enterNewRing y_O_enterNewRing ∈ pv_T := pv_inS 0 rfl rfl
theorem we_O_unusedRing : Cond.selects R_O y_O_unusedRing y_O_unusedRing ∈ pv_T := pv_inS 1 rfl rfl
theorem we_O_nodesOf : Cond.selects R_O y_O_nodesOf y_O_nodesOf ∈ pv_T := pv_inS 2 rfl rfl
theorem we_O_broadcastRequests : Cond.selects R_O y_O_broadcastRequests y_O_broadcastRequests ∈ pv_T := pv_inS 3 rfl rfl
theorem we_O_broadcast : Cond.selects R_O y_O_broadcast y_O_broadcast ∈ pv_T := pv_inS 4 rfl rfl
theorem we_O_broadcastNew : Cond.selects R_O y_O_broadcastNew y_O_broadcastNew ∈ pv_T := pv_inS 5 rfl rfl
theorem we_O_deliverInRing : Cond.selects R_O y_O_deliverInRing y_O_deliverInRing ∈ pv_T := pv_inS 6 rfl rfl
theorem we_O_deliverRegular : Cond.selects R_O y_O_deliverRegular y_O_deliverRegular ∈ pv_T := pv_inS 7 rfl rfl
theorem we_O_isDeliverable : Cond.selects R_O y_O_isDeliverable y_O_isDeliverable ∈ pv_T := pv_inS 8 rfl rfl
theorem we_O_hasStranger : Cond.selects R_O y_O_hasStranger y_O_hasStranger ∈ pv_T := pv_inS 9 rfl rfl
theorem we_O_formAnew : Cond.selects R_O y_O_formAnew y_O_formAnew ∈ pv_T := pv_inS 10 rfl rfl
theorem we_O_upNodesIn : Cond.selects R_O y_O_upNodesIn y_O_upNodesIn ∈ pv_T := pv_inS 11 rfl rfl
theorem we_O_deliverLeftOver : Cond.selects R_O y_O_deliverLeftOver y_O_deliverLeftOver ∈ pv_T := pv_inS 12 rfl rfl
theorem we_O_deliverTransitional : Cond.selects R_O y_O_deliverTransitional y_O_deliverTransitional ∈ pv_T := pv_inS 13 rfl rfl
theorem we_O_passToken : Cond.selects R_O y_O_passToken y_O_passToken ∈ pv_T := pv_inS 14 rfl rfl
theorem we_O_isUpNode : Cond.selects R_O y_O_isUpNode y_O_isUpNode ∈ pv_T := pv_inS 15 rfl rfl
theorem we_Y_refuse : Cond.selects R_Y y_Y_refuse y_Y_refuse ∈ pv_T := pv_inS 16 rfl rfl
theorem we_Y_queued : Cond.selects R_Y y_Y_queued y_Y_queued ∈ pv_T := pv_inS 17 rfl rfl
theorem we_Y_sendAgain : Cond.selects R_Y y_Y_sendAgain y_Y_sendAgain ∈ pv_T := pv_inS 18 rfl rfl
theorem we_Y_has : Cond.selects R_Y y_Y_has y_Y_has ∈ pv_T := pv_inS 19 rfl rfl
theorem we_Y_message : Cond.selects R_Y y_Y_message y_Y_message ∈ pv_T := pv_inS 20 rfl rfl
theorem we_Y_broadcast : Cond.selects R_Y y_Y_broadcast y_Y_broadcast ∈ pv_T := pv_inS 21 rfl rfl
theorem we_Y_hears : Cond.selects R_Y y_Y_hears y_Y_hears ∈ pv_T := pv_inS 22 rfl rfl
theorem we_Y_sendNew : Cond.selects R_Y y_Y_sendNew y_Y_sendNew ∈ pv_T := pv_inS 23 rfl rfl
theorem we_Y_first : Cond.selects R_Y y_Y_first y_Y_first ∈ pv_T := pv_inS 24 rfl rfl
theorem we_Y_reachOf : Cond.selects R_Y y_Y_reachOf y_Y_reachOf ∈ pv_T := pv_inS 25 rfl rfl
theorem we_Y_deliver : Cond.selects R_Y y_Y_deliver y_Y_deliver ∈ pv_T := pv_inS 26 rfl rfl
theorem we_Y_append : Cond.selects R_Y y_Y_append y_Y_append ∈ pv_T := pv_inS 27 rfl rfl
theorem we_Y_stranger : Cond.selects R_Y y_Y_stranger y_Y_stranger ∈ pv_T := pv_inS 28 rfl rfl
theorem we_Y_form : Cond.selects R_Y y_Y_form y_Y_form ∈ pv_T := pv_inS 29 rfl rfl
theorem we_Y_together : Cond.selects R_Y y_Y_together y_Y_together ∈ pv_T := pv_inS 30 rfl rfl
theorem we_Y_share : Cond.selects R_Y y_Y_share y_Y_share ∈ pv_T := pv_inS 31 rfl rfl
theorem we_Y_finish : Cond.selects R_Y y_Y_finish y_Y_finish ∈ pv_T := pv_inS 32 rfl rfl
theorem we_Y_newRing : Cond.selects R_Y y_Y_newRing y_Y_newRing ∈ pv_T := pv_inS 33 rfl rfl
theorem we_Y_enter : Cond.selects R_Y y_Y_enter y_Y_enter ∈ pv_T := pv_inS 34 rfl rfl
theorem we_Y_clean : Cond.selects R_Y y_Y_clean y_Y_clean ∈ pv_T := pv_inS 35 rfl rfl
theorem we_Y_passOn : Cond.selects R_Y y_Y_passOn y_Y_passOn ∈ pv_T := pv_inS 36 rfl rfl
set_option maxRecDepth 100000 in
theorem lay_M : ∀ w ∈ u_ws R_M T_M 4, w ∈ pv_T := by
  intro w h
  obtain ⟨k, hk, rfl⟩ := List.mem_map.mp h
  have hk := List.mem_range.mp hk
  rcases (show k = 0 ∨ k = 1 ∨ k = 2 ∨ k = 3 by omega) with rfl | rfl | rfl | rfl
  · exact pv_in 122 rfl rfl
  · exact pv_in 124 rfl rfl
  · exact pv_in 126 rfl rfl
  · exact pv_in 128 rfl rfl
set_option maxRecDepth 100000 in
theorem lay_N : ∀ w ∈ u_ws R_N T_N 12, w ∈ pv_T := by
  intro w h
  obtain ⟨k, hk, rfl⟩ := List.mem_map.mp h
  have hk := List.mem_range.mp hk
  rcases (show k = 0 ∨ k = 1 ∨ k = 2 ∨ k = 3 ∨ k = 4 ∨ k = 5 ∨ k = 6 ∨ k = 7 ∨ k = 8 ∨ k = 9 ∨ k = 10 ∨ k = 11 by omega) with rfl | rfl | rfl | rfl | rfl | rfl | rfl | rfl | rfl | rfl | rfl | rfl
  · exact pv_in 46 rfl rfl
  · exact pv_in 48 rfl rfl
  · exact pv_in 50 rfl rfl
  · exact pv_in 52 rfl rfl
  · exact pv_in 54 rfl rfl
  · exact pv_in 56 rfl rfl
  · exact pv_in 58 rfl rfl
  · exact pv_in 60 rfl rfl
  · exact pv_in 62 rfl rfl
  · exact pv_in 64 rfl rfl
  · exact pv_in 66 rfl rfl
  · exact pv_in 68 rfl rfl
set_option maxRecDepth 100000 in
theorem lay_R : ∀ w ∈ u_ws R_R T_R 7, w ∈ pv_T := by
  intro w h
  obtain ⟨k, hk, rfl⟩ := List.mem_map.mp h
  have hk := List.mem_range.mp hk
  rcases (show k = 0 ∨ k = 1 ∨ k = 2 ∨ k = 3 ∨ k = 4 ∨ k = 5 ∨ k = 6 by omega) with rfl | rfl | rfl | rfl | rfl | rfl | rfl
  · exact pv_in 93 rfl rfl
  · exact pv_in 95 rfl rfl
  · exact pv_in 97 rfl rfl
  · exact pv_in 99 rfl rfl
  · exact pv_in 101 rfl rfl
  · exact pv_in 103 rfl rfl
  · exact pv_in 105 rfl rfl
set_option maxRecDepth 100000 in
theorem lay_O : ∀ w ∈ u_ws R_O T_O 4, w ∈ pv_T := by
  intro w h
  obtain ⟨k, hk, rfl⟩ := List.mem_map.mp h
  have hk := List.mem_range.mp hk
  rcases (show k = 0 ∨ k = 1 ∨ k = 2 ∨ k = 3 by omega) with rfl | rfl | rfl | rfl
  · exact pv_in 168 rfl rfl
  · exact pv_in 170 rfl rfl
  · exact pv_in 172 rfl rfl
  · exact pv_in 174 rfl rfl
set_option maxRecDepth 100000 in
theorem lay_Y : ∀ w ∈ u_ws R_Y T_Y 22, w ∈ pv_T := by
  intro w h
  obtain ⟨k, hk, rfl⟩ := List.mem_map.mp h
  have hk := List.mem_range.mp hk
  rcases (show k = 0 ∨ k = 1 ∨ k = 2 ∨ k = 3 ∨ k = 4 ∨ k = 5 ∨ k = 6 ∨ k = 7 ∨ k = 8 ∨ k = 9 ∨ k = 10 ∨ k = 11 ∨ k = 12 ∨ k = 13 ∨ k = 14 ∨ k = 15 ∨ k = 16 ∨ k = 17 ∨ k = 18 ∨ k = 19 ∨ k = 20 ∨ k = 21 by omega) with rfl | rfl | rfl | rfl | rfl | rfl | rfl | rfl | rfl | rfl | rfl | rfl | rfl | rfl | rfl | rfl | rfl | rfl | rfl | rfl | rfl | rfl
  · exact pv_in 418 rfl rfl
  · exact pv_in 420 rfl rfl
  · exact pv_in 422 rfl rfl
  · exact pv_in 424 rfl rfl
  · exact pv_in 426 rfl rfl
  · exact pv_in 428 rfl rfl
  · exact pv_in 430 rfl rfl
  · exact pv_in 432 rfl rfl
  · exact pv_in 434 rfl rfl
  · exact pv_in 436 rfl rfl
  · exact pv_in 438 rfl rfl
  · exact pv_in 440 rfl rfl
  · exact pv_in 442 rfl rfl
  · exact pv_in 444 rfl rfl
  · exact pv_in 446 rfl rfl
  · exact pv_in 448 rfl rfl
  · exact pv_in 450 rfl rfl
  · exact pv_in 452 rfl rfl
  · exact pv_in 454 rfl rfl
  · exact pv_in 456 rfl rfl
  · exact pv_in 458 rfl rfl
  · exact pv_in 460 rfl rfl
/-- the array classes: ints, booleans, longs, nodes, rings -/
def pv_tys (ty : Nat → ClassId) : List (ClassId × FieldType) := [(ty 0, .int), (ty 1, .boolean), (ty 2, .long), (ty 3, .object pv_RN), (ty 4, .object pv_RR)]
def pv_N : List (String × Nat × MethodName × String) := [(R_R, 52, y_O_isIn, R_O)]
def pv_K (D : va_G) (ty : Nat → ClassId) (s : State) : Prop := va_K D pv_cl (pv_tys ty) s ∧ va_AO pv_RN s ∧ va_AO pv_RR s ∧ ∀ q ∈ pv_N, va_Nw (.methodLinkNest q.1 q.2.1 q.2.2.1 q.2.2.2) s
def pv_p (x : Option Nat) : Value := match x with
  | none => .null
  | some k => .ref (k + 1)
theorem pv_p_inj {base : Nat} {x y : Option Nat} (h : x.map (fun k => base + k) = y.map (fun k => base + k)) : x = y := by
  cases x <;> cases y <;> simp at h <;> simp [h]
def pv_F (own : String) (idx ci kf : Nat) : Prop := ∃ (C : String) (T : u_T) (N : Nat), pv_cl[ci]? = some (C, T, N) ∧ kf < N ∧ (∀ w ∈ u_ws C T N, w ∈ pv_T) ∧ Cond.fieldLink own idx (T kf).1 (T kf).2.1 (T kf).2.2.1 ∈ pv_T ∧ True
def pv_FP (ci kf : Nat) (fty : FieldType) (fin : Bool) : Prop := ∃ (C : String) (T : u_T) (N : Nat) (ty0 : Nat → FieldType), pv_cl[ci]? = some (C, T, N) ∧ (∀ k, k < N → parseFieldDescriptor (T k).2.2.1 = some (ty0 k)) ∧ (∀ a, a < N → ∀ b, b < N → a ≠ b → (T a).2.1 ≠ (T b).2.1) ∧ (T kf).2.2.2 = fin ∧ parseFieldDescriptor (T kf).2.2.1 = some fty
def pv_own (own : String) (ci kf : Nat) : Prop := ∃ (C : String) (T : u_T) (N : Nat), pv_cl[ci]? = some (C, T, N) ∧ (T kf).1 = own
theorem ff_N_9 : pv_F R_N 9 1 0 := ⟨R_N, T_N, 12, rfl, by decide, lay_N, wf_N_9, trivial⟩
theorem ff_R_41 : pv_F R_R 41 1 0 := ⟨R_N, T_N, 12, rfl, by decide, lay_N, wf_R_41, trivial⟩
theorem ff_O_196 : pv_F R_O 196 1 0 := ⟨R_N, T_N, 12, rfl, by decide, lay_N, wf_O_196, trivial⟩
theorem ff_N_15 : pv_F R_N 15 1 1 := ⟨R_N, T_N, 12, rfl, by decide, lay_N, wf_N_15, trivial⟩
theorem ff_N_19 : pv_F R_N 19 1 2 := ⟨R_N, T_N, 12, rfl, by decide, lay_N, wf_N_19, trivial⟩
theorem ff_O_143 : pv_F R_O 143 1 2 := ⟨R_N, T_N, 12, rfl, by decide, lay_N, wf_O_143, trivial⟩
theorem ff_N_22 : pv_F R_N 22 1 3 := ⟨R_N, T_N, 12, rfl, by decide, lay_N, wf_N_22, trivial⟩
theorem ff_O_60 : pv_F R_O 60 1 3 := ⟨R_N, T_N, 12, rfl, by decide, lay_N, wf_O_60, trivial⟩
theorem ff_N_26 : pv_F R_N 26 1 4 := ⟨R_N, T_N, 12, rfl, by decide, lay_N, wf_N_26, trivial⟩
theorem ff_O_216 : pv_F R_O 216 1 4 := ⟨R_N, T_N, 12, rfl, by decide, lay_N, wf_O_216, trivial⟩
theorem ff_O_50 : pv_F R_O 50 1 5 := ⟨R_N, T_N, 12, rfl, by decide, lay_N, wf_O_50, trivial⟩
theorem ff_N_41 : pv_F R_N 41 1 5 := ⟨R_N, T_N, 12, rfl, by decide, lay_N, wf_N_41, trivial⟩
theorem ff_N_50 : pv_F R_N 50 1 6 := ⟨R_N, T_N, 12, rfl, by decide, lay_N, wf_N_50, trivial⟩
theorem ff_O_140 : pv_F R_O 140 1 6 := ⟨R_N, T_N, 12, rfl, by decide, lay_N, wf_O_140, trivial⟩
theorem ff_O_96 : pv_F R_O 96 1 7 := ⟨R_N, T_N, 12, rfl, by decide, lay_N, wf_O_96, trivial⟩
theorem ff_O_82 : pv_F R_O 82 1 8 := ⟨R_N, T_N, 12, rfl, by decide, lay_N, wf_O_82, trivial⟩
theorem ff_N_61 : pv_F R_N 61 1 8 := ⟨R_N, T_N, 12, rfl, by decide, lay_N, wf_N_61, trivial⟩
theorem ff_N_64 : pv_F R_N 64 1 9 := ⟨R_N, T_N, 12, rfl, by decide, lay_N, wf_N_64, trivial⟩
theorem ff_O_182 : pv_F R_O 182 1 9 := ⟨R_N, T_N, 12, rfl, by decide, lay_N, wf_O_182, trivial⟩
theorem ff_N_30 : pv_F R_N 30 1 10 := ⟨R_N, T_N, 12, rfl, by decide, lay_N, wf_N_30, trivial⟩
theorem ff_O_112 : pv_F R_O 112 1 10 := ⟨R_N, T_N, 12, rfl, by decide, lay_N, wf_O_112, trivial⟩
theorem ff_O_89 : pv_F R_O 89 1 11 := ⟨R_N, T_N, 12, rfl, by decide, lay_N, wf_O_89, trivial⟩
theorem ff_N_67 : pv_F R_N 67 1 11 := ⟨R_N, T_N, 12, rfl, by decide, lay_N, wf_N_67, trivial⟩
theorem ff_R_9 : pv_F R_R 9 2 0 := ⟨R_R, T_R, 7, rfl, by decide, lay_R, wf_R_9, trivial⟩
theorem ff_O_166 : pv_F R_O 166 2 0 := ⟨R_R, T_R, 7, rfl, by decide, lay_R, wf_O_166, trivial⟩
theorem ff_R_15 : pv_F R_R 15 2 1 := ⟨R_R, T_R, 7, rfl, by decide, lay_R, wf_R_15, trivial⟩
theorem ff_R_22 : pv_F R_R 22 2 2 := ⟨R_R, T_R, 7, rfl, by decide, lay_R, wf_R_22, trivial⟩
theorem ff_O_118 : pv_F R_O 118 2 2 := ⟨R_R, T_R, 7, rfl, by decide, lay_R, wf_O_118, trivial⟩
theorem ff_R_25 : pv_F R_R 25 2 3 := ⟨R_R, T_R, 7, rfl, by decide, lay_R, wf_R_25, trivial⟩
theorem ff_O_121 : pv_F R_O 121 2 3 := ⟨R_R, T_R, 7, rfl, by decide, lay_R, wf_O_121, trivial⟩
theorem ff_R_18 : pv_F R_R 18 2 4 := ⟨R_R, T_R, 7, rfl, by decide, lay_R, wf_R_18, trivial⟩
theorem ff_O_64 : pv_F R_O 64 2 4 := ⟨R_R, T_R, 7, rfl, by decide, lay_R, wf_O_64, trivial⟩
theorem ff_N_56 : pv_F R_N 56 2 4 := ⟨R_R, T_R, 7, rfl, by decide, lay_R, wf_N_56, trivial⟩
theorem ff_R_32 : pv_F R_R 32 2 5 := ⟨R_R, T_R, 7, rfl, by decide, lay_R, wf_R_32, trivial⟩
theorem ff_O_124 : pv_F R_O 124 2 5 := ⟨R_R, T_R, 7, rfl, by decide, lay_R, wf_O_124, trivial⟩
theorem ff_R_35 : pv_F R_R 35 2 6 := ⟨R_R, T_R, 7, rfl, by decide, lay_R, wf_R_35, trivial⟩
theorem ff_O_127 : pv_F R_O 127 2 6 := ⟨R_R, T_R, 7, rfl, by decide, lay_R, wf_O_127, trivial⟩
theorem ff_M_9 : pv_F R_M 9 0 0 := ⟨R_M, T_M, 4, rfl, by decide, lay_M, wf_M_9, trivial⟩
theorem ff_O_229 : pv_F R_O 229 0 0 := ⟨R_M, T_M, 4, rfl, by decide, lay_M, wf_O_229, trivial⟩
theorem ff_M_15 : pv_F R_M 15 0 1 := ⟨R_M, T_M, 4, rfl, by decide, lay_M, wf_M_15, trivial⟩
theorem ff_O_192 : pv_F R_O 192 0 1 := ⟨R_M, T_M, 4, rfl, by decide, lay_M, wf_O_192, trivial⟩
theorem ff_M_19 : pv_F R_M 19 0 2 := ⟨R_M, T_M, 4, rfl, by decide, lay_M, wf_M_19, trivial⟩
theorem ff_O_147 : pv_F R_O 147 0 2 := ⟨R_M, T_M, 4, rfl, by decide, lay_M, wf_O_147, trivial⟩
theorem ff_M_22 : pv_F R_M 22 0 3 := ⟨R_M, T_M, 4, rfl, by decide, lay_M, wf_M_22, trivial⟩
theorem ff_O_47 : pv_F R_O 47 0 3 := ⟨R_M, T_M, 4, rfl, by decide, lay_M, wf_O_47, trivial⟩
theorem ff_O_11 : pv_F R_O 11 3 0 := ⟨R_O, T_O, 4, rfl, by decide, lay_O, wf_O_11, trivial⟩
theorem ff_O_20 : pv_F R_O 20 3 1 := ⟨R_O, T_O, 4, rfl, by decide, lay_O, wf_O_20, trivial⟩
theorem ff_O_28 : pv_F R_O 28 3 2 := ⟨R_O, T_O, 4, rfl, by decide, lay_O, wf_O_28, trivial⟩
theorem ff_O_32 : pv_F R_O 32 3 3 := ⟨R_O, T_O, 4, rfl, by decide, lay_O, wf_O_32, trivial⟩
theorem ff_Y_7 : pv_F R_Y 7 4 0 := ⟨R_Y, T_Y, 22, rfl, by decide, lay_Y, wf_Y_7, trivial⟩
theorem ff_Y_13 : pv_F R_Y 13 4 1 := ⟨R_Y, T_Y, 22, rfl, by decide, lay_Y, wf_Y_13, trivial⟩
theorem ff_Y_17 : pv_F R_Y 17 4 2 := ⟨R_Y, T_Y, 22, rfl, by decide, lay_Y, wf_Y_17, trivial⟩
theorem ff_Y_20 : pv_F R_Y 20 4 3 := ⟨R_Y, T_Y, 22, rfl, by decide, lay_Y, wf_Y_20, trivial⟩
theorem ff_Y_23 : pv_F R_Y 23 4 4 := ⟨R_Y, T_Y, 22, rfl, by decide, lay_Y, wf_Y_23, trivial⟩
theorem ff_Y_26 : pv_F R_Y 26 4 5 := ⟨R_Y, T_Y, 22, rfl, by decide, lay_Y, wf_Y_26, trivial⟩
theorem ff_Y_29 : pv_F R_Y 29 4 6 := ⟨R_Y, T_Y, 22, rfl, by decide, lay_Y, wf_Y_29, trivial⟩
theorem ff_Y_32 : pv_F R_Y 32 4 7 := ⟨R_Y, T_Y, 22, rfl, by decide, lay_Y, wf_Y_32, trivial⟩
theorem ff_Y_35 : pv_F R_Y 35 4 8 := ⟨R_Y, T_Y, 22, rfl, by decide, lay_Y, wf_Y_35, trivial⟩
theorem ff_Y_38 : pv_F R_Y 38 4 9 := ⟨R_Y, T_Y, 22, rfl, by decide, lay_Y, wf_Y_38, trivial⟩
theorem ff_Y_80 : pv_F R_Y 80 4 10 := ⟨R_Y, T_Y, 22, rfl, by decide, lay_Y, wf_Y_80, trivial⟩
theorem ff_Y_41 : pv_F R_Y 41 4 11 := ⟨R_Y, T_Y, 22, rfl, by decide, lay_Y, wf_Y_41, trivial⟩
theorem ff_Y_44 : pv_F R_Y 44 4 12 := ⟨R_Y, T_Y, 22, rfl, by decide, lay_Y, wf_Y_44, trivial⟩
theorem ff_Y_47 : pv_F R_Y 47 4 13 := ⟨R_Y, T_Y, 22, rfl, by decide, lay_Y, wf_Y_47, trivial⟩
theorem ff_Y_50 : pv_F R_Y 50 4 14 := ⟨R_Y, T_Y, 22, rfl, by decide, lay_Y, wf_Y_50, trivial⟩
theorem ff_Y_53 : pv_F R_Y 53 4 15 := ⟨R_Y, T_Y, 22, rfl, by decide, lay_Y, wf_Y_53, trivial⟩
theorem ff_Y_72 : pv_F R_Y 72 4 16 := ⟨R_Y, T_Y, 22, rfl, by decide, lay_Y, wf_Y_72, trivial⟩
theorem ff_Y_56 : pv_F R_Y 56 4 17 := ⟨R_Y, T_Y, 22, rfl, by decide, lay_Y, wf_Y_56, trivial⟩
theorem ff_Y_59 : pv_F R_Y 59 4 18 := ⟨R_Y, T_Y, 22, rfl, by decide, lay_Y, wf_Y_59, trivial⟩
theorem ff_Y_62 : pv_F R_Y 62 4 19 := ⟨R_Y, T_Y, 22, rfl, by decide, lay_Y, wf_Y_62, trivial⟩
theorem ff_Y_65 : pv_F R_Y 65 4 20 := ⟨R_Y, T_Y, 22, rfl, by decide, lay_Y, wf_Y_65, trivial⟩
theorem ff_Y_68 : pv_F R_Y 68 4 21 := ⟨R_Y, T_Y, 22, rfl, by decide, lay_Y, wf_Y_68, trivial⟩
theorem fp_M_origins : pv_FP 0 0 (.array (.int)) true := ⟨R_M, T_M, 4, ty_M, rfl, ty_M_ok, nm_M, rfl, by decide +kernel⟩
theorem fo_M_origins : pv_own R_M 0 0 := ⟨R_M, T_M, 4, rfl, rfl⟩
theorem fp_M_safe : pv_FP 0 1 (.array (.boolean)) true := ⟨R_M, T_M, 4, ty_M, rfl, ty_M_ok, nm_M, rfl, by decide +kernel⟩
theorem fo_M_safe : pv_own R_M 0 1 := ⟨R_M, T_M, 4, rfl, rfl⟩
theorem fp_M_stamps : pv_FP 0 2 (.array (.int)) true := ⟨R_M, T_M, 4, ty_M, rfl, ty_M_ok, nm_M, rfl, by decide +kernel⟩
theorem fo_M_stamps : pv_own R_M 0 2 := ⟨R_M, T_M, 4, rfl, rfl⟩
theorem fp_M_taken : pv_FP 0 3 (.int) false := ⟨R_M, T_M, 4, ty_M, rfl, ty_M_ok, nm_M, rfl, by decide +kernel⟩
theorem fp_N_number : pv_FP 1 0 (.int) true := ⟨R_N, T_N, 12, ty_N, rfl, ty_N_ok, nm_N, rfl, by decide +kernel⟩
theorem fo_N_number : pv_own R_N 1 0 := ⟨R_N, T_N, 12, rfl, rfl⟩
theorem fp_N_queue : pv_FP 1 1 (.array (.int)) true := ⟨R_N, T_N, 12, ty_N, rfl, ty_N_ok, nm_N, rfl, by decide +kernel⟩
theorem fo_N_queue : pv_own R_N 1 1 := ⟨R_N, T_N, 12, rfl, rfl⟩
theorem fp_N_entries : pv_FP 1 2 (.array (.int)) true := ⟨R_N, T_N, 12, ty_N, rfl, ty_N_ok, nm_N, rfl, by decide +kernel⟩
theorem fo_N_entries : pv_own R_N 1 2 := ⟨R_N, T_N, 12, rfl, rfl⟩
theorem fp_N_ring : pv_FP 1 3 (.object "RotatingTokenGroup$Ring") false := ⟨R_N, T_N, 12, ty_N, rfl, ty_N_ok, nm_N, rfl, by decide +kernel⟩
theorem fp_N_held : pv_FP 1 4 (.long) false := ⟨R_N, T_N, 12, ty_N, rfl, ty_N_ok, nm_N, rfl, by decide +kernel⟩
theorem fp_N_queued : pv_FP 1 5 (.int) false := ⟨R_N, T_N, 12, ty_N, rfl, ty_N_ok, nm_N, rfl, by decide +kernel⟩
theorem fp_N_logged : pv_FP 1 6 (.int) false := ⟨R_N, T_N, 12, ty_N, rfl, ty_N_ok, nm_N, rfl, by decide +kernel⟩
theorem fp_N_area : pv_FP 1 7 (.int) false := ⟨R_N, T_N, 12, ty_N, rfl, ty_N_ok, nm_N, rfl, by decide +kernel⟩
theorem fp_N_line : pv_FP 1 8 (.int) false := ⟨R_N, T_N, 12, ty_N, rfl, ty_N_ok, nm_N, rfl, by decide +kernel⟩
theorem fp_N_place : pv_FP 1 9 (.int) false := ⟨R_N, T_N, 12, ty_N, rfl, ty_N_ok, nm_N, rfl, by decide +kernel⟩
theorem fp_N_deafness : pv_FP 1 10 (.int) false := ⟨R_N, T_N, 12, ty_N, rfl, ty_N_ok, nm_N, rfl, by decide +kernel⟩
theorem fp_N_timer : pv_FP 1 11 (.int) false := ⟨R_N, T_N, 12, ty_N, rfl, ty_N_ok, nm_N, rfl, by decide +kernel⟩
theorem fp_R_messageAt : pv_FP 2 0 (.array (.int)) true := ⟨R_R, T_R, 7, ty_R, rfl, ty_R_ok, nm_R, rfl, by decide +kernel⟩
theorem fo_R_messageAt : pv_own R_R 2 0 := ⟨R_R, T_R, 7, rfl, rfl⟩
theorem fp_R_marks : pv_FP 2 1 (.array (.int)) true := ⟨R_R, T_R, 7, ty_R, rfl, ty_R_ok, nm_R, rfl, by decide +kernel⟩
theorem fo_R_marks : pv_own R_R 2 1 := ⟨R_R, T_R, 7, rfl, rfl⟩
theorem fp_R_number : pv_FP 2 2 (.int) false := ⟨R_R, T_R, 7, ty_R, rfl, ty_R_ok, nm_R, rfl, by decide +kernel⟩
theorem fp_R_members : pv_FP 2 3 (.int) false := ⟨R_R, T_R, 7, ty_R, rfl, ty_R_ok, nm_R, rfl, by decide +kernel⟩
theorem fp_R_tokenAt : pv_FP 2 4 (.int) false := ⟨R_R, T_R, 7, ty_R, rfl, ty_R_ok, nm_R, rfl, by decide +kernel⟩
theorem fp_R_last : pv_FP 2 5 (.int) false := ⟨R_R, T_R, 7, ty_R, rfl, ty_R_ok, nm_R, rfl, by decide +kernel⟩
theorem fp_R_requests : pv_FP 2 6 (.long) false := ⟨R_R, T_R, 7, ty_R, rfl, ty_R_ok, nm_R, rfl, by decide +kernel⟩
theorem fp_O_nodes : pv_FP 3 0 (.array (.object "RotatingTokenGroup$Node")) true := ⟨R_O, T_O, 4, ty_O, rfl, ty_O_ok, nm_O, rfl, by decide +kernel⟩
theorem fo_O_nodes : pv_own R_O 3 0 := ⟨R_O, T_O, 4, rfl, rfl⟩
theorem fp_O_rings : pv_FP 3 1 (.array (.object "RotatingTokenGroup$Ring")) true := ⟨R_O, T_O, 4, ty_O, rfl, ty_O_ok, nm_O, rfl, by decide +kernel⟩
theorem fo_O_rings : pv_own R_O 3 1 := ⟨R_O, T_O, 4, rfl, rfl⟩
theorem fp_O_messages : pv_FP 3 2 (.object "RotatingTokenGroup$Messages") true := ⟨R_O, T_O, 4, ty_O, rfl, ty_O_ok, nm_O, rfl, by decide +kernel⟩
theorem fo_O_messages : pv_own R_O 3 2 := ⟨R_O, T_O, 4, rfl, rfl⟩
theorem fp_O_greatestRing : pv_FP 3 3 (.int) false := ⟨R_O, T_O, 4, ty_O, rfl, ty_O_ok, nm_O, rfl, by decide +kernel⟩
theorem fp_Y_up : pv_FP 4 0 (.array (.boolean)) true := ⟨R_Y, T_Y, 22, ty_Y, rfl, ty_Y_ok, nm_Y, rfl, by decide +kernel⟩
theorem fo_Y_up : pv_own R_Y 4 0 := ⟨R_Y, T_Y, 22, rfl, rfl⟩
theorem fp_Y_area : pv_FP 4 1 (.array (.int)) true := ⟨R_Y, T_Y, 22, ty_Y, rfl, ty_Y_ok, nm_Y, rfl, by decide +kernel⟩
theorem fo_Y_area : pv_own R_Y 4 1 := ⟨R_Y, T_Y, 22, rfl, rfl⟩
theorem fp_Y_ringOf : pv_FP 4 2 (.array (.int)) true := ⟨R_Y, T_Y, 22, ty_Y, rfl, ty_Y_ok, nm_Y, rfl, by decide +kernel⟩
theorem fo_Y_ringOf : pv_own R_Y 4 2 := ⟨R_Y, T_Y, 22, rfl, rfl⟩
theorem fp_Y_lineOf : pv_FP 4 3 (.array (.int)) true := ⟨R_Y, T_Y, 22, ty_Y, rfl, ty_Y_ok, nm_Y, rfl, by decide +kernel⟩
theorem fo_Y_lineOf : pv_own R_Y 4 3 := ⟨R_Y, T_Y, 22, rfl, rfl⟩
theorem fp_Y_placeOf : pv_FP 4 4 (.array (.int)) true := ⟨R_Y, T_Y, 22, ty_Y, rfl, ty_Y_ok, nm_Y, rfl, by decide +kernel⟩
theorem fo_Y_placeOf : pv_own R_Y 4 4 := ⟨R_Y, T_Y, 22, rfl, rfl⟩
theorem fp_Y_deaf : pv_FP 4 5 (.array (.int)) true := ⟨R_Y, T_Y, 22, ty_Y, rfl, ty_Y_ok, nm_Y, rfl, by decide +kernel⟩
theorem fo_Y_deaf : pv_own R_Y 4 5 := ⟨R_Y, T_Y, 22, rfl, rfl⟩
theorem fp_Y_timer : pv_FP 4 6 (.array (.int)) true := ⟨R_Y, T_Y, 22, ty_Y, rfl, ty_Y_ok, nm_Y, rfl, by decide +kernel⟩
theorem fo_Y_timer : pv_own R_Y 4 6 := ⟨R_Y, T_Y, 22, rfl, rfl⟩
theorem fp_Y_hold : pv_FP 4 7 (.array (.boolean)) true := ⟨R_Y, T_Y, 22, ty_Y, rfl, ty_Y_ok, nm_Y, rfl, by decide +kernel⟩
theorem fo_Y_hold : pv_own R_Y 4 7 := ⟨R_Y, T_Y, 22, rfl, rfl⟩
theorem fp_Y_logs : pv_FP 4 8 (.array (.int)) true := ⟨R_Y, T_Y, 22, ty_Y, rfl, ty_Y_ok, nm_Y, rfl, by decide +kernel⟩
theorem fo_Y_logs : pv_own R_Y 4 8 := ⟨R_Y, T_Y, 22, rfl, rfl⟩
theorem fp_Y_entries : pv_FP 4 9 (.array (.int)) true := ⟨R_Y, T_Y, 22, ty_Y, rfl, ty_Y_ok, nm_Y, rfl, by decide +kernel⟩
theorem fo_Y_entries : pv_own R_Y 4 9 := ⟨R_Y, T_Y, 22, rfl, rfl⟩
theorem fp_Y_messages : pv_FP 4 10 (.int) false := ⟨R_Y, T_Y, 22, ty_Y, rfl, ty_Y_ok, nm_Y, rfl, by decide +kernel⟩
theorem fp_Y_origin : pv_FP 4 11 (.array (.int)) true := ⟨R_Y, T_Y, 22, ty_Y, rfl, ty_Y_ok, nm_Y, rfl, by decide +kernel⟩
theorem fo_Y_origin : pv_own R_Y 4 11 := ⟨R_Y, T_Y, 22, rfl, rfl⟩
theorem fp_Y_isSafe : pv_FP 4 12 (.array (.boolean)) true := ⟨R_Y, T_Y, 22, ty_Y, rfl, ty_Y_ok, nm_Y, rfl, by decide +kernel⟩
theorem fo_Y_isSafe : pv_own R_Y 4 12 := ⟨R_Y, T_Y, 22, rfl, rfl⟩
theorem fp_Y_gone : pv_FP 4 13 (.array (.boolean)) true := ⟨R_Y, T_Y, 22, ty_Y, rfl, ty_Y_ok, nm_Y, rfl, by decide +kernel⟩
theorem fo_Y_gone : pv_own R_Y 4 13 := ⟨R_Y, T_Y, 22, rfl, rfl⟩
theorem fp_Y_ringIn : pv_FP 4 14 (.array (.int)) true := ⟨R_Y, T_Y, 22, ty_Y, rfl, ty_Y_ok, nm_Y, rfl, by decide +kernel⟩
theorem fo_Y_ringIn : pv_own R_Y 4 14 := ⟨R_Y, T_Y, 22, rfl, rfl⟩
theorem fp_Y_number : pv_FP 4 15 (.array (.int)) true := ⟨R_Y, T_Y, 22, ty_Y, rfl, ty_Y_ok, nm_Y, rfl, by decide +kernel⟩
theorem fo_Y_number : pv_own R_Y 4 15 := ⟨R_Y, T_Y, 22, rfl, rfl⟩
theorem fp_Y_rings : pv_FP 4 16 (.int) false := ⟨R_Y, T_Y, 22, ty_Y, rfl, ty_Y_ok, nm_Y, rfl, by decide +kernel⟩
theorem fp_Y_at : pv_FP 4 17 (.array (.int)) true := ⟨R_Y, T_Y, 22, ty_Y, rfl, ty_Y_ok, nm_Y, rfl, by decide +kernel⟩
theorem fo_Y_at : pv_own R_Y 4 17 := ⟨R_Y, T_Y, 22, rfl, rfl⟩
theorem fp_Y_latest : pv_FP 4 18 (.array (.int)) true := ⟨R_Y, T_Y, 22, ty_Y, rfl, ty_Y_ok, nm_Y, rfl, by decide +kernel⟩
theorem fo_Y_latest : pv_own R_Y 4 18 := ⟨R_Y, T_Y, 22, rfl, rfl⟩
theorem fp_Y_memberBits : pv_FP 4 19 (.array (.int)) true := ⟨R_Y, T_Y, 22, ty_Y, rfl, ty_Y_ok, nm_Y, rfl, by decide +kernel⟩
theorem fo_Y_memberBits : pv_own R_Y 4 19 := ⟨R_Y, T_Y, 22, rfl, rfl⟩
theorem fp_Y_marks : pv_FP 4 20 (.array (.int)) true := ⟨R_Y, T_Y, 22, ty_Y, rfl, ty_Y_ok, nm_Y, rfl, by decide +kernel⟩
theorem fo_Y_marks : pv_own R_Y 4 20 := ⟨R_Y, T_Y, 22, rfl, rfl⟩
theorem fp_Y_wanted : pv_FP 4 21 (.array (.long)) true := ⟨R_Y, T_Y, 22, ty_Y, rfl, ty_Y_ok, nm_Y, rfl, by decide +kernel⟩
theorem fo_Y_wanted : pv_own R_Y 4 21 := ⟨R_Y, T_Y, 22, rfl, rfl⟩
