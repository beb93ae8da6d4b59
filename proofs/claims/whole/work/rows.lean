section
-- ===== PART A: goes FIRST, ahead of the names: the tables' words, and 'selects' of the private methods out of them =====
/-- a private method of a class that the tables say can be made, by its rows of tables_1 -/
def lw_okq (q : MethodName × Nat) : Prop := (q.1.cls ≠ "java/lang/invoke/MethodHandle" ∧ q.1.cls ≠ "java/lang/invoke/VarHandle") ∧ Cond.instantiable q.1.cls q.2 ∈ tables_1 ∧ Cond.privateMethod q.1 ∈ tables_1 ∧ Cond.instanceMethod q.1 ∈ tables_1
theorem lw_p0 : lw_okq (⟨"RotatingTokenGroup", "enterNewRing", "(I)V"⟩, 4) := ⟨⟨by decide +kernel, by decide +kernel⟩, List.mem_of_getElem? (i := 9) (by decide +kernel), List.mem_of_getElem? (i := 133) (by decide +kernel), List.mem_of_getElem? (i := 134) (by decide +kernel)⟩
theorem lw_p1 : lw_okq (⟨"RotatingTokenGroup", "unusedRing", "()LRotatingTokenGroup$Ring;"⟩, 4) := ⟨⟨by decide +kernel, by decide +kernel⟩, List.mem_of_getElem? (i := 9) (by decide +kernel), List.mem_of_getElem? (i := 137) (by decide +kernel), List.mem_of_getElem? (i := 138) (by decide +kernel)⟩
theorem lw_p2 : lw_okq (⟨"RotatingTokenGroup", "nodesOf", "(LRotatingTokenGroup$Ring;)I"⟩, 4) := ⟨⟨by decide +kernel, by decide +kernel⟩, List.mem_of_getElem? (i := 9) (by decide +kernel), List.mem_of_getElem? (i := 141) (by decide +kernel), List.mem_of_getElem? (i := 142) (by decide +kernel)⟩
theorem lw_p3 : lw_okq (⟨"RotatingTokenGroup", "broadcastRequests", "(LRotatingTokenGroup$Node;LRotatingTokenGroup$Ring;)I"⟩, 4) := ⟨⟨by decide +kernel, by decide +kernel⟩, List.mem_of_getElem? (i := 9) (by decide +kernel), List.mem_of_getElem? (i := 201) (by decide +kernel), List.mem_of_getElem? (i := 202) (by decide +kernel)⟩
theorem lw_p4 : lw_okq (⟨"RotatingTokenGroup", "broadcast", "(LRotatingTokenGroup$Node;I)V"⟩, 4) := ⟨⟨by decide +kernel, by decide +kernel⟩, List.mem_of_getElem? (i := 9) (by decide +kernel), List.mem_of_getElem? (i := 218) (by decide +kernel), List.mem_of_getElem? (i := 219) (by decide +kernel)⟩
theorem lw_p5 : lw_okq (⟨"RotatingTokenGroup", "broadcastNew", "(LRotatingTokenGroup$Node;LRotatingTokenGroup$Ring;)I"⟩, 4) := ⟨⟨by decide +kernel, by decide +kernel⟩, List.mem_of_getElem? (i := 9) (by decide +kernel), List.mem_of_getElem? (i := 234) (by decide +kernel), List.mem_of_getElem? (i := 235) (by decide +kernel)⟩
theorem lw_p6 : lw_okq (⟨"RotatingTokenGroup", "deliverInRing", "(LRotatingTokenGroup$Ring;)V"⟩, 4) := ⟨⟨by decide +kernel, by decide +kernel⟩, List.mem_of_getElem? (i := 9) (by decide +kernel), List.mem_of_getElem? (i := 262) (by decide +kernel), List.mem_of_getElem? (i := 263) (by decide +kernel)⟩
theorem lw_p7 : lw_okq (⟨"RotatingTokenGroup", "deliverRegular", "(LRotatingTokenGroup$Node;LRotatingTokenGroup$Ring;)V"⟩, 4) := ⟨⟨by decide +kernel, by decide +kernel⟩, List.mem_of_getElem? (i := 9) (by decide +kernel), List.mem_of_getElem? (i := 266) (by decide +kernel), List.mem_of_getElem? (i := 267) (by decide +kernel)⟩
theorem lw_p8 : lw_okq (⟨"RotatingTokenGroup", "isDeliverable", "(LRotatingTokenGroup$Node;LRotatingTokenGroup$Ring;I)Z"⟩, 4) := ⟨⟨by decide +kernel, by decide +kernel⟩, List.mem_of_getElem? (i := 9) (by decide +kernel), List.mem_of_getElem? (i := 270) (by decide +kernel), List.mem_of_getElem? (i := 271) (by decide +kernel)⟩
theorem lw_p9 : lw_okq (⟨"RotatingTokenGroup", "hasStranger", "(LRotatingTokenGroup$Node;)Z"⟩, 4) := ⟨⟨by decide +kernel, by decide +kernel⟩, List.mem_of_getElem? (i := 9) (by decide +kernel), List.mem_of_getElem? (i := 278) (by decide +kernel), List.mem_of_getElem? (i := 279) (by decide +kernel)⟩
theorem lw_p10 : lw_okq (⟨"RotatingTokenGroup", "formAnew", "(I)V"⟩, 4) := ⟨⟨by decide +kernel, by decide +kernel⟩, List.mem_of_getElem? (i := 9) (by decide +kernel), List.mem_of_getElem? (i := 282) (by decide +kernel), List.mem_of_getElem? (i := 283) (by decide +kernel)⟩
theorem lw_p11 : lw_okq (⟨"RotatingTokenGroup", "upNodesIn", "(I)I"⟩, 4) := ⟨⟨by decide +kernel, by decide +kernel⟩, List.mem_of_getElem? (i := 9) (by decide +kernel), List.mem_of_getElem? (i := 286) (by decide +kernel), List.mem_of_getElem? (i := 287) (by decide +kernel)⟩
theorem lw_p12 : lw_okq (⟨"RotatingTokenGroup", "deliverLeftOver", "(LRotatingTokenGroup$Ring;I)V"⟩, 4) := ⟨⟨by decide +kernel, by decide +kernel⟩, List.mem_of_getElem? (i := 9) (by decide +kernel), List.mem_of_getElem? (i := 290) (by decide +kernel), List.mem_of_getElem? (i := 291) (by decide +kernel)⟩
theorem lw_p13 : lw_okq (⟨"RotatingTokenGroup", "deliverTransitional", "(LRotatingTokenGroup$Node;LRotatingTokenGroup$Ring;I)V"⟩, 4) := ⟨⟨by decide +kernel, by decide +kernel⟩, List.mem_of_getElem? (i := 9) (by decide +kernel), List.mem_of_getElem? (i := 295) (by decide +kernel), List.mem_of_getElem? (i := 296) (by decide +kernel)⟩
theorem lw_p14 : lw_okq (⟨"RotatingTokenGroup", "passToken", "(LRotatingTokenGroup$Node;LRotatingTokenGroup$Ring;)V"⟩, 4) := ⟨⟨by decide +kernel, by decide +kernel⟩, List.mem_of_getElem? (i := 9) (by decide +kernel), List.mem_of_getElem? (i := 299) (by decide +kernel), List.mem_of_getElem? (i := 300) (by decide +kernel)⟩
theorem lw_p15 : lw_okq (⟨"RotatingTokenGroup", "isUpNode", "(I)Z"⟩, 4) := ⟨⟨by decide +kernel, by decide +kernel⟩, List.mem_of_getElem? (i := 9) (by decide +kernel), List.mem_of_getElem? (i := 312) (by decide +kernel), List.mem_of_getElem? (i := 313) (by decide +kernel)⟩
def lw_privs_1 : List (MethodName × Nat) := [(⟨"RotatingTokenGroup", "enterNewRing", "(I)V"⟩, 4), (⟨"RotatingTokenGroup", "unusedRing", "()LRotatingTokenGroup$Ring;"⟩, 4), (⟨"RotatingTokenGroup", "nodesOf", "(LRotatingTokenGroup$Ring;)I"⟩, 4), (⟨"RotatingTokenGroup", "broadcastRequests", "(LRotatingTokenGroup$Node;LRotatingTokenGroup$Ring;)I"⟩, 4), (⟨"RotatingTokenGroup", "broadcast", "(LRotatingTokenGroup$Node;I)V"⟩, 4), (⟨"RotatingTokenGroup", "broadcastNew", "(LRotatingTokenGroup$Node;LRotatingTokenGroup$Ring;)I"⟩, 4), (⟨"RotatingTokenGroup", "deliverInRing", "(LRotatingTokenGroup$Ring;)V"⟩, 4), (⟨"RotatingTokenGroup", "deliverRegular", "(LRotatingTokenGroup$Node;LRotatingTokenGroup$Ring;)V"⟩, 4), (⟨"RotatingTokenGroup", "isDeliverable", "(LRotatingTokenGroup$Node;LRotatingTokenGroup$Ring;I)Z"⟩, 4), (⟨"RotatingTokenGroup", "hasStranger", "(LRotatingTokenGroup$Node;)Z"⟩, 4), (⟨"RotatingTokenGroup", "formAnew", "(I)V"⟩, 4), (⟨"RotatingTokenGroup", "upNodesIn", "(I)I"⟩, 4), (⟨"RotatingTokenGroup", "deliverLeftOver", "(LRotatingTokenGroup$Ring;I)V"⟩, 4), (⟨"RotatingTokenGroup", "deliverTransitional", "(LRotatingTokenGroup$Node;LRotatingTokenGroup$Ring;I)V"⟩, 4), (⟨"RotatingTokenGroup", "passToken", "(LRotatingTokenGroup$Node;LRotatingTokenGroup$Ring;)V"⟩, 4), (⟨"RotatingTokenGroup", "isUpNode", "(I)Z"⟩, 4)]
theorem lw_r1 : ∀ q ∈ lw_privs_1, lw_okq q := List.forall_mem_cons.mpr ⟨lw_p0, List.forall_mem_cons.mpr ⟨lw_p1, List.forall_mem_cons.mpr ⟨lw_p2, List.forall_mem_cons.mpr ⟨lw_p3, List.forall_mem_cons.mpr ⟨lw_p4, List.forall_mem_cons.mpr ⟨lw_p5, List.forall_mem_cons.mpr ⟨lw_p6, List.forall_mem_cons.mpr ⟨lw_p7, List.forall_mem_cons.mpr ⟨lw_p8, List.forall_mem_cons.mpr ⟨lw_p9, List.forall_mem_cons.mpr ⟨lw_p10, List.forall_mem_cons.mpr ⟨lw_p11, List.forall_mem_cons.mpr ⟨lw_p12, List.forall_mem_cons.mpr ⟨lw_p13, List.forall_mem_cons.mpr ⟨lw_p14, List.forall_mem_cons.mpr ⟨lw_p15, fun _ h => absurd h List.not_mem_nil⟩⟩⟩⟩⟩⟩⟩⟩⟩⟩⟩⟩⟩⟩⟩⟩
theorem lw_p16 : lw_okq (⟨"RotatingTokenGroupModel", "refuse", "(I)I"⟩, 22) := ⟨⟨by decide +kernel, by decide +kernel⟩, List.mem_of_getElem? (i := 391) (by decide +kernel), List.mem_of_getElem? (i := 469) (by decide +kernel), List.mem_of_getElem? (i := 470) (by decide +kernel)⟩
theorem lw_p17 : lw_okq (⟨"RotatingTokenGroupModel", "queued", "(I)I"⟩, 22) := ⟨⟨by decide +kernel, by decide +kernel⟩, List.mem_of_getElem? (i := 391) (by decide +kernel), List.mem_of_getElem? (i := 476) (by decide +kernel), List.mem_of_getElem? (i := 477) (by decide +kernel)⟩
theorem lw_p18 : lw_okq (⟨"RotatingTokenGroupModel", "sendAgain", "(II)I"⟩, 22) := ⟨⟨by decide +kernel, by decide +kernel⟩, List.mem_of_getElem? (i := 391) (by decide +kernel), List.mem_of_getElem? (i := 484) (by decide +kernel), List.mem_of_getElem? (i := 485) (by decide +kernel)⟩
theorem lw_p19 : lw_okq (⟨"RotatingTokenGroupModel", "has", "(II)Z"⟩, 22) := ⟨⟨by decide +kernel, by decide +kernel⟩, List.mem_of_getElem? (i := 391) (by decide +kernel), List.mem_of_getElem? (i := 488) (by decide +kernel), List.mem_of_getElem? (i := 489) (by decide +kernel)⟩
theorem lw_p20 : lw_okq (⟨"RotatingTokenGroupModel", "message", "(II)I"⟩, 22) := ⟨⟨by decide +kernel, by decide +kernel⟩, List.mem_of_getElem? (i := 391) (by decide +kernel), List.mem_of_getElem? (i := 492) (by decide +kernel), List.mem_of_getElem? (i := 493) (by decide +kernel)⟩
theorem lw_p21 : lw_okq (⟨"RotatingTokenGroupModel", "broadcast", "(II)V"⟩, 22) := ⟨⟨by decide +kernel, by decide +kernel⟩, List.mem_of_getElem? (i := 391) (by decide +kernel), List.mem_of_getElem? (i := 497) (by decide +kernel), List.mem_of_getElem? (i := 498) (by decide +kernel)⟩
theorem lw_p22 : lw_okq (⟨"RotatingTokenGroupModel", "hears", "(II)Z"⟩, 22) := ⟨⟨by decide +kernel, by decide +kernel⟩, List.mem_of_getElem? (i := 391) (by decide +kernel), List.mem_of_getElem? (i := 501) (by decide +kernel), List.mem_of_getElem? (i := 502) (by decide +kernel)⟩
theorem lw_p23 : lw_okq (⟨"RotatingTokenGroupModel", "sendNew", "(II)I"⟩, 22) := ⟨⟨by decide +kernel, by decide +kernel⟩, List.mem_of_getElem? (i := 391) (by decide +kernel), List.mem_of_getElem? (i := 505) (by decide +kernel), List.mem_of_getElem? (i := 506) (by decide +kernel)⟩
theorem lw_p24 : lw_okq (⟨"RotatingTokenGroupModel", "first", "(I)I"⟩, 22) := ⟨⟨by decide +kernel, by decide +kernel⟩, List.mem_of_getElem? (i := 391) (by decide +kernel), List.mem_of_getElem? (i := 509) (by decide +kernel), List.mem_of_getElem? (i := 510) (by decide +kernel)⟩
theorem lw_p25 : lw_okq (⟨"RotatingTokenGroupModel", "reachOf", "(I)I"⟩, 22) := ⟨⟨by decide +kernel, by decide +kernel⟩, List.mem_of_getElem? (i := 391) (by decide +kernel), List.mem_of_getElem? (i := 513) (by decide +kernel), List.mem_of_getElem? (i := 514) (by decide +kernel)⟩
theorem lw_p26 : lw_okq (⟨"RotatingTokenGroupModel", "deliver", "(I)V"⟩, 22) := ⟨⟨by decide +kernel, by decide +kernel⟩, List.mem_of_getElem? (i := 391) (by decide +kernel), List.mem_of_getElem? (i := 517) (by decide +kernel), List.mem_of_getElem? (i := 518) (by decide +kernel)⟩
theorem lw_p27 : lw_okq (⟨"RotatingTokenGroupModel", "append", "(II)V"⟩, 22) := ⟨⟨by decide +kernel, by decide +kernel⟩, List.mem_of_getElem? (i := 391) (by decide +kernel), List.mem_of_getElem? (i := 521) (by decide +kernel), List.mem_of_getElem? (i := 522) (by decide +kernel)⟩
theorem lw_p28 : lw_okq (⟨"RotatingTokenGroupModel", "stranger", "(I)Z"⟩, 22) := ⟨⟨by decide +kernel, by decide +kernel⟩, List.mem_of_getElem? (i := 391) (by decide +kernel), List.mem_of_getElem? (i := 525) (by decide +kernel), List.mem_of_getElem? (i := 526) (by decide +kernel)⟩
theorem lw_p29 : lw_okq (⟨"RotatingTokenGroupModel", "form", "(I)V"⟩, 22) := ⟨⟨by decide +kernel, by decide +kernel⟩, List.mem_of_getElem? (i := 391) (by decide +kernel), List.mem_of_getElem? (i := 529) (by decide +kernel), List.mem_of_getElem? (i := 530) (by decide +kernel)⟩
theorem lw_p30 : lw_okq (⟨"RotatingTokenGroupModel", "together", "(II)I"⟩, 22) := ⟨⟨by decide +kernel, by decide +kernel⟩, List.mem_of_getElem? (i := 391) (by decide +kernel), List.mem_of_getElem? (i := 533) (by decide +kernel), List.mem_of_getElem? (i := 534) (by decide +kernel)⟩
theorem lw_p31 : lw_okq (⟨"RotatingTokenGroupModel", "share", "(I)V"⟩, 22) := ⟨⟨by decide +kernel, by decide +kernel⟩, List.mem_of_getElem? (i := 391) (by decide +kernel), List.mem_of_getElem? (i := 537) (by decide +kernel), List.mem_of_getElem? (i := 538) (by decide +kernel)⟩
def lw_privs_2 : List (MethodName × Nat) := [(⟨"RotatingTokenGroupModel", "refuse", "(I)I"⟩, 22), (⟨"RotatingTokenGroupModel", "queued", "(I)I"⟩, 22), (⟨"RotatingTokenGroupModel", "sendAgain", "(II)I"⟩, 22), (⟨"RotatingTokenGroupModel", "has", "(II)Z"⟩, 22), (⟨"RotatingTokenGroupModel", "message", "(II)I"⟩, 22), (⟨"RotatingTokenGroupModel", "broadcast", "(II)V"⟩, 22), (⟨"RotatingTokenGroupModel", "hears", "(II)Z"⟩, 22), (⟨"RotatingTokenGroupModel", "sendNew", "(II)I"⟩, 22), (⟨"RotatingTokenGroupModel", "first", "(I)I"⟩, 22), (⟨"RotatingTokenGroupModel", "reachOf", "(I)I"⟩, 22), (⟨"RotatingTokenGroupModel", "deliver", "(I)V"⟩, 22), (⟨"RotatingTokenGroupModel", "append", "(II)V"⟩, 22), (⟨"RotatingTokenGroupModel", "stranger", "(I)Z"⟩, 22), (⟨"RotatingTokenGroupModel", "form", "(I)V"⟩, 22), (⟨"RotatingTokenGroupModel", "together", "(II)I"⟩, 22), (⟨"RotatingTokenGroupModel", "share", "(I)V"⟩, 22)]
theorem lw_r2 : ∀ q ∈ lw_privs_2, lw_okq q := List.forall_mem_cons.mpr ⟨lw_p16, List.forall_mem_cons.mpr ⟨lw_p17, List.forall_mem_cons.mpr ⟨lw_p18, List.forall_mem_cons.mpr ⟨lw_p19, List.forall_mem_cons.mpr ⟨lw_p20, List.forall_mem_cons.mpr ⟨lw_p21, List.forall_mem_cons.mpr ⟨lw_p22, List.forall_mem_cons.mpr ⟨lw_p23, List.forall_mem_cons.mpr ⟨lw_p24, List.forall_mem_cons.mpr ⟨lw_p25, List.forall_mem_cons.mpr ⟨lw_p26, List.forall_mem_cons.mpr ⟨lw_p27, List.forall_mem_cons.mpr ⟨lw_p28, List.forall_mem_cons.mpr ⟨lw_p29, List.forall_mem_cons.mpr ⟨lw_p30, List.forall_mem_cons.mpr ⟨lw_p31, fun _ h => absurd h List.not_mem_nil⟩⟩⟩⟩⟩⟩⟩⟩⟩⟩⟩⟩⟩⟩⟩⟩
theorem lw_p32 : lw_okq (⟨"RotatingTokenGroupModel", "finish", "(II)V"⟩, 22) := ⟨⟨by decide +kernel, by decide +kernel⟩, List.mem_of_getElem? (i := 391) (by decide +kernel), List.mem_of_getElem? (i := 541) (by decide +kernel), List.mem_of_getElem? (i := 542) (by decide +kernel)⟩
theorem lw_p33 : lw_okq (⟨"RotatingTokenGroupModel", "newRing", "(II)V"⟩, 22) := ⟨⟨by decide +kernel, by decide +kernel⟩, List.mem_of_getElem? (i := 391) (by decide +kernel), List.mem_of_getElem? (i := 545) (by decide +kernel), List.mem_of_getElem? (i := 546) (by decide +kernel)⟩
theorem lw_p34 : lw_okq (⟨"RotatingTokenGroupModel", "enter", "(I)V"⟩, 22) := ⟨⟨by decide +kernel, by decide +kernel⟩, List.mem_of_getElem? (i := 391) (by decide +kernel), List.mem_of_getElem? (i := 549) (by decide +kernel), List.mem_of_getElem? (i := 550) (by decide +kernel)⟩
theorem lw_p35 : lw_okq (⟨"RotatingTokenGroupModel", "clean", "(I)V"⟩, 22) := ⟨⟨by decide +kernel, by decide +kernel⟩, List.mem_of_getElem? (i := 391) (by decide +kernel), List.mem_of_getElem? (i := 553) (by decide +kernel), List.mem_of_getElem? (i := 554) (by decide +kernel)⟩
theorem lw_p36 : lw_okq (⟨"RotatingTokenGroupModel", "passOn", "(II)V"⟩, 22) := ⟨⟨by decide +kernel, by decide +kernel⟩, List.mem_of_getElem? (i := 391) (by decide +kernel), List.mem_of_getElem? (i := 557) (by decide +kernel), List.mem_of_getElem? (i := 558) (by decide +kernel)⟩
def lw_privs_3 : List (MethodName × Nat) := [(⟨"RotatingTokenGroupModel", "finish", "(II)V"⟩, 22), (⟨"RotatingTokenGroupModel", "newRing", "(II)V"⟩, 22), (⟨"RotatingTokenGroupModel", "enter", "(I)V"⟩, 22), (⟨"RotatingTokenGroupModel", "clean", "(I)V"⟩, 22), (⟨"RotatingTokenGroupModel", "passOn", "(II)V"⟩, 22)]
theorem lw_r3 : ∀ q ∈ lw_privs_3, lw_okq q := List.forall_mem_cons.mpr ⟨lw_p32, List.forall_mem_cons.mpr ⟨lw_p33, List.forall_mem_cons.mpr ⟨lw_p34, List.forall_mem_cons.mpr ⟨lw_p35, List.forall_mem_cons.mpr ⟨lw_p36, fun _ h => absurd h List.not_mem_nil⟩⟩⟩⟩⟩
def lw_privs : List (MethodName × Nat) := lw_privs_1 ++ (lw_privs_2 ++ (lw_privs_3))
def lw_tbl : List Cond := k2_sels lw_privs ++ tables_1
theorem lw_privs_ok : ∀ q ∈ lw_privs, lw_okq q := by
  show ∀ q ∈ lw_privs_1 ++ (lw_privs_2 ++ (lw_privs_3)), lw_okq q
  exact List.forall_mem_append.mpr ⟨lw_r1, List.forall_mem_append.mpr ⟨lw_r2, lw_r3⟩⟩
end
section
/-! 01.names: names, words, by program out of the Statement and the listing -/
def R_M : String := "RotatingTokenGroup$Messages"
def R_N : String := "RotatingTokenGroup$Node"
def R_R : String := "RotatingTokenGroup$Ring"
def R_O : String := "RotatingTokenGroup"
def R_Y : String := "RotatingTokenGroupModel"
def R_L : String := "RotatingTokenGroupLaw"
def R_J : String := "java/lang/Long"
def T_M : u_T := fun k => match k with
  | 0 => ("RotatingTokenGroup$Messages", "origins", "[I", true)
  | 1 => ("RotatingTokenGroup$Messages", "safe", "[Z", true)
  | 2 => ("RotatingTokenGroup$Messages", "stamps", "[I", true)
  | _ => ("RotatingTokenGroup$Messages", "taken", "I", false)
def ty_M : Nat → FieldType := fun k => match k with
  | 0 => .array (.int)
  | 1 => .array (.boolean)
  | 2 => .array (.int)
  | _ => .int
theorem nm_M : ∀ a, a < 4 → ∀ b, b < 4 → a ≠ b → (T_M a).2.1 ≠ (T_M b).2.1 := by decide +kernel
theorem ty_M_ok : ∀ k, k < 4 → parseFieldDescriptor (T_M k).2.2.1 = some (ty_M k) := by decide +kernel
def T_N : u_T := fun k => match k with
  | 0 => ("RotatingTokenGroup$Node", "number", "I", true)
  | 1 => ("RotatingTokenGroup$Node", "queue", "[I", true)
  | 2 => ("RotatingTokenGroup$Node", "entries", "[I", true)
  | 3 => ("RotatingTokenGroup$Node", "ring", "LRotatingTokenGroup$Ring;", false)
  | 4 => ("RotatingTokenGroup$Node", "held", "J", false)
  | 5 => ("RotatingTokenGroup$Node", "queued", "I", false)
  | 6 => ("RotatingTokenGroup$Node", "logged", "I", false)
  | 7 => ("RotatingTokenGroup$Node", "area", "I", false)
  | 8 => ("RotatingTokenGroup$Node", "line", "I", false)
  | 9 => ("RotatingTokenGroup$Node", "place", "I", false)
  | 10 => ("RotatingTokenGroup$Node", "deafness", "I", false)
  | _ => ("RotatingTokenGroup$Node", "timer", "I", false)
def ty_N : Nat → FieldType := fun k => match k with
  | 0 => .int
  | 1 => .array (.int)
  | 2 => .array (.int)
  | 3 => .object "RotatingTokenGroup$Ring"
  | 4 => .long
  | 5 => .int
  | 6 => .int
  | 7 => .int
  | 8 => .int
  | 9 => .int
  | 10 => .int
  | _ => .int
theorem nm_N : ∀ a, a < 12 → ∀ b, b < 12 → a ≠ b → (T_N a).2.1 ≠ (T_N b).2.1 := by decide +kernel
theorem ty_N_ok : ∀ k, k < 12 → parseFieldDescriptor (T_N k).2.2.1 = some (ty_N k) := by decide +kernel
def T_R : u_T := fun k => match k with
  | 0 => ("RotatingTokenGroup$Ring", "messageAt", "[I", true)
  | 1 => ("RotatingTokenGroup$Ring", "marks", "[I", true)
  | 2 => ("RotatingTokenGroup$Ring", "number", "I", false)
  | 3 => ("RotatingTokenGroup$Ring", "members", "I", false)
  | 4 => ("RotatingTokenGroup$Ring", "tokenAt", "I", false)
  | 5 => ("RotatingTokenGroup$Ring", "last", "I", false)
  | _ => ("RotatingTokenGroup$Ring", "requests", "J", false)
def ty_R : Nat → FieldType := fun k => match k with
  | 0 => .array (.int)
  | 1 => .array (.int)
  | 2 => .int
  | 3 => .int
  | 4 => .int
  | 5 => .int
  | _ => .long
theorem nm_R : ∀ a, a < 7 → ∀ b, b < 7 → a ≠ b → (T_R a).2.1 ≠ (T_R b).2.1 := by decide +kernel
theorem ty_R_ok : ∀ k, k < 7 → parseFieldDescriptor (T_R k).2.2.1 = some (ty_R k) := by decide +kernel
def T_O : u_T := fun k => match k with
  | 0 => ("RotatingTokenGroup", "nodes", "[LRotatingTokenGroup$Node;", true)
  | 1 => ("RotatingTokenGroup", "rings", "[LRotatingTokenGroup$Ring;", true)
  | 2 => ("RotatingTokenGroup", "messages", "LRotatingTokenGroup$Messages;", true)
  | _ => ("RotatingTokenGroup", "greatestRing", "I", false)
def ty_O : Nat → FieldType := fun k => match k with
  | 0 => .array (.object "RotatingTokenGroup$Node")
  | 1 => .array (.object "RotatingTokenGroup$Ring")
  | 2 => .object "RotatingTokenGroup$Messages"
  | _ => .int
theorem nm_O : ∀ a, a < 4 → ∀ b, b < 4 → a ≠ b → (T_O a).2.1 ≠ (T_O b).2.1 := by decide +kernel
theorem ty_O_ok : ∀ k, k < 4 → parseFieldDescriptor (T_O k).2.2.1 = some (ty_O k) := by decide +kernel
def T_Y : u_T := fun k => match k with
  | 0 => ("RotatingTokenGroupModel", "up", "[Z", true)
  | 1 => ("RotatingTokenGroupModel", "area", "[I", true)
  | 2 => ("RotatingTokenGroupModel", "ringOf", "[I", true)
  | 3 => ("RotatingTokenGroupModel", "lineOf", "[I", true)
  | 4 => ("RotatingTokenGroupModel", "placeOf", "[I", true)
  | 5 => ("RotatingTokenGroupModel", "deaf", "[I", true)
  | 6 => ("RotatingTokenGroupModel", "timer", "[I", true)
  | 7 => ("RotatingTokenGroupModel", "hold", "[Z", true)
  | 8 => ("RotatingTokenGroupModel", "logs", "[I", true)
  | 9 => ("RotatingTokenGroupModel", "entries", "[I", true)
  | 10 => ("RotatingTokenGroupModel", "messages", "I", false)
  | 11 => ("RotatingTokenGroupModel", "origin", "[I", true)
  | 12 => ("RotatingTokenGroupModel", "isSafe", "[Z", true)
  | 13 => ("RotatingTokenGroupModel", "gone", "[Z", true)
  | 14 => ("RotatingTokenGroupModel", "ringIn", "[I", true)
  | 15 => ("RotatingTokenGroupModel", "number", "[I", true)
  | 16 => ("RotatingTokenGroupModel", "rings", "I", false)
  | 17 => ("RotatingTokenGroupModel", "at", "[I", true)
  | 18 => ("RotatingTokenGroupModel", "latest", "[I", true)
  | 19 => ("RotatingTokenGroupModel", "memberBits", "[I", true)
  | 20 => ("RotatingTokenGroupModel", "marks", "[I", true)
  | _ => ("RotatingTokenGroupModel", "wanted", "[J", true)
def ty_Y : Nat → FieldType := fun k => match k with
  | 0 => .array (.boolean)
  | 1 => .array (.int)
  | 2 => .array (.int)
  | 3 => .array (.int)
  | 4 => .array (.int)
  | 5 => .array (.int)
  | 6 => .array (.int)
  | 7 => .array (.boolean)
  | 8 => .array (.int)
  | 9 => .array (.int)
  | 10 => .int
  | 11 => .array (.int)
  | 12 => .array (.boolean)
  | 13 => .array (.boolean)
  | 14 => .array (.int)
  | 15 => .array (.int)
  | 16 => .int
  | 17 => .array (.int)
  | 18 => .array (.int)
  | 19 => .array (.int)
  | 20 => .array (.int)
  | _ => .array (.long)
theorem nm_Y : ∀ a, a < 22 → ∀ b, b < 22 → a ≠ b → (T_Y a).2.1 ≠ (T_Y b).2.1 := by decide +kernel
theorem ty_Y_ok : ∀ k, k < 22 → parseFieldDescriptor (T_Y k).2.2.1 = some (ty_Y k) := by decide +kernel
def pv_cl : List vw_C := [(R_M, T_M, 4), (R_N, T_N, 12), (R_R, T_R, 7), (R_O, T_O, 4), (R_Y, T_Y, 22)]
abbrev c_O_init : ByteArray := prog_1_method_1_code
def y_O_init : MethodName := ⟨R_O, "<init>", "()V"⟩
abbrev c_O_broadcast : ByteArray := prog_1_method_27_code
def y_O_broadcast : MethodName := ⟨R_O, "broadcast", "(LRotatingTokenGroup$Node;I)V"⟩
abbrev c_O_broadcastNew : ByteArray := prog_1_method_26_code
def y_O_broadcastNew : MethodName := ⟨R_O, "broadcastNew", "(LRotatingTokenGroup$Node;LRotatingTokenGroup$Ring;)I"⟩
abbrev c_O_broadcastRequests : ByteArray := prog_1_method_25_code
def y_O_broadcastRequests : MethodName := ⟨R_O, "broadcastRequests", "(LRotatingTokenGroup$Node;LRotatingTokenGroup$Ring;)I"⟩
abbrev c_O_crash : ByteArray := prog_1_method_5_code
def y_O_crash : MethodName := ⟨R_O, "crash", "(I)Z"⟩
abbrev c_O_deafen : ByteArray := prog_1_method_8_code
def y_O_deafen : MethodName := ⟨R_O, "deafen", "(II)Z"⟩
abbrev c_O_deliverInRing : ByteArray := prog_1_method_28_code
def y_O_deliverInRing : MethodName := ⟨R_O, "deliverInRing", "(LRotatingTokenGroup$Ring;)V"⟩
abbrev c_O_deliverLeftOver : ByteArray := prog_1_method_34_code
def y_O_deliverLeftOver : MethodName := ⟨R_O, "deliverLeftOver", "(LRotatingTokenGroup$Ring;I)V"⟩
abbrev c_O_deliverRegular : ByteArray := prog_1_method_29_code
def y_O_deliverRegular : MethodName := ⟨R_O, "deliverRegular", "(LRotatingTokenGroup$Node;LRotatingTokenGroup$Ring;)V"⟩
abbrev c_O_deliverTransitional : ByteArray := prog_1_method_35_code
def y_O_deliverTransitional : MethodName := ⟨R_O, "deliverTransitional", "(LRotatingTokenGroup$Node;LRotatingTokenGroup$Ring;I)V"⟩
abbrev c_O_delivered : ByteArray := prog_1_method_18_code
def y_O_delivered : MethodName := ⟨R_O, "delivered", "(I)I"⟩
abbrev c_O_drop : ByteArray := prog_1_method_9_code
def y_O_drop : MethodName := ⟨R_O, "drop", "(I)Z"⟩
abbrev c_O_enterNewRing : ByteArray := prog_1_method_36_code
def y_O_enterNewRing : MethodName := ⟨R_O, "enterNewRing", "(I)V"⟩
abbrev c_O_formAnew : ByteArray := prog_1_method_33_code
def y_O_formAnew : MethodName := ⟨R_O, "formAnew", "(I)V"⟩
abbrev c_O_hasStranger : ByteArray := prog_1_method_31_code
def y_O_hasStranger : MethodName := ⟨R_O, "hasStranger", "(LRotatingTokenGroup$Node;)Z"⟩
abbrev c_O_hearEachOther : ByteArray := prog_1_method_24_code
def y_O_hearEachOther : MethodName := ⟨R_O, "hearEachOther", "(LRotatingTokenGroup$Node;LRotatingTokenGroup$Node;)Z"⟩
abbrev c_O_isDeliverable : ByteArray := prog_1_method_30_code
def y_O_isDeliverable : MethodName := ⟨R_O, "isDeliverable", "(LRotatingTokenGroup$Node;LRotatingTokenGroup$Ring;I)Z"⟩
abbrev c_O_isIn : ByteArray := prog_1_method_23_code
def y_O_isIn : MethodName := ⟨R_O, "isIn", "(II)Z"⟩
abbrev c_O_isNode : ByteArray := prog_1_method_21_code
def y_O_isNode : MethodName := ⟨R_O, "isNode", "(I)Z"⟩
abbrev c_O_isUpNode : ByteArray := prog_1_method_22_code
def y_O_isUpNode : MethodName := ⟨R_O, "isUpNode", "(I)Z"⟩
abbrev c_O_last : ByteArray := prog_1_method_13_code
def y_O_last : MethodName := ⟨R_O, "last", "(I)I"⟩
abbrev c_O_line : ByteArray := prog_1_method_16_code
def y_O_line : MethodName := ⟨R_O, "line", "(I)I"⟩
abbrev c_O_log : ByteArray := prog_1_method_19_code
def y_O_log : MethodName := ⟨R_O, "log", "(II)I"⟩
abbrev c_O_members : ByteArray := prog_1_method_11_code
def y_O_members : MethodName := ⟨R_O, "members", "(I)I"⟩
abbrev c_O_nodesOf : ByteArray := prog_1_method_38_code
def y_O_nodesOf : MethodName := ⟨R_O, "nodesOf", "(LRotatingTokenGroup$Ring;)I"⟩
abbrev c_O_passToken : ByteArray := prog_1_method_32_code
def y_O_passToken : MethodName := ⟨R_O, "passToken", "(LRotatingTokenGroup$Node;LRotatingTokenGroup$Ring;)V"⟩
abbrev c_O_place : ByteArray := prog_1_method_7_code
def y_O_place : MethodName := ⟨R_O, "place", "(II)Z"⟩
abbrev c_O_reach : ByteArray := prog_1_method_15_code
def y_O_reach : MethodName := ⟨R_O, "reach", "(I)I"⟩
abbrev c_O_requests : ByteArray := prog_1_method_14_code
def y_O_requests : MethodName := ⟨R_O, "requests", "(I)I"⟩
abbrev c_O_restart : ByteArray := prog_1_method_6_code
def y_O_restart : MethodName := ⟨R_O, "restart", "(I)Z"⟩
abbrev c_O_ring : ByteArray := prog_1_method_10_code
def y_O_ring : MethodName := ⟨R_O, "ring", "(I)I"⟩
abbrev c_O_send : ByteArray := prog_1_method_2_code
def y_O_send : MethodName := ⟨R_O, "send", "(IZ)I"⟩
abbrev c_O_stamp : ByteArray := prog_1_method_20_code
def y_O_stamp : MethodName := ⟨R_O, "stamp", "(I)I"⟩
abbrev c_O_tick : ByteArray := prog_1_method_4_code
def y_O_tick : MethodName := ⟨R_O, "tick", "(I)I"⟩
abbrev c_O_token : ByteArray := prog_1_method_12_code
def y_O_token : MethodName := ⟨R_O, "token", "(I)I"⟩
abbrev c_O_unusedRing : ByteArray := prog_1_method_37_code
def y_O_unusedRing : MethodName := ⟨R_O, "unusedRing", "()LRotatingTokenGroup$Ring;"⟩
abbrev c_O_upNodesIn : ByteArray := prog_1_method_39_code
def y_O_upNodesIn : MethodName := ⟨R_O, "upNodesIn", "(I)I"⟩
abbrev c_O_visit : ByteArray := prog_1_method_3_code
def y_O_visit : MethodName := ⟨R_O, "visit", "(I)I"⟩
abbrev c_O_waiting : ByteArray := prog_1_method_17_code
def y_O_waiting : MethodName := ⟨R_O, "waiting", "(I)I"⟩
abbrev c_M_init : ByteArray := prog_2_method_1_code
def y_M_init : MethodName := ⟨R_M, "<init>", "()V"⟩
abbrev c_M_take : ByteArray := prog_2_method_2_code
def y_M_take : MethodName := ⟨R_M, "take", "(IZ)I"⟩
abbrev c_N_init : ByteArray := prog_3_method_1_code
def y_N_init : MethodName := ⟨R_N, "<init>", "(I)V"⟩
abbrev c_N_append : ByteArray := prog_3_method_9_code
def y_N_append : MethodName := ⟨R_N, "append", "(I)V"⟩
abbrev c_N_dequeue : ByteArray := prog_3_method_8_code
def y_N_dequeue : MethodName := ⟨R_N, "dequeue", "()I"⟩
abbrev c_N_enqueue : ByteArray := prog_3_method_7_code
def y_N_enqueue : MethodName := ⟨R_N, "enqueue", "(I)V"⟩
abbrev c_N_enter : ByteArray := prog_3_method_10_code
def y_N_enter : MethodName := ⟨R_N, "enter", "(LRotatingTokenGroup$Ring;)V"⟩
abbrev c_N_goDown : ByteArray := prog_3_method_12_code
def y_N_goDown : MethodName := ⟨R_N, "goDown", "()V"⟩
abbrev c_N_heldWithoutGap : ByteArray := prog_3_method_6_code
def y_N_heldWithoutGap : MethodName := ⟨R_N, "heldWithoutGap", "()I"⟩
abbrev c_N_hold : ByteArray := prog_3_method_4_code
def y_N_hold : MethodName := ⟨R_N, "hold", "(I)V"⟩
abbrev c_N_holds : ByteArray := prog_3_method_3_code
def y_N_holds : MethodName := ⟨R_N, "holds", "(I)Z"⟩
abbrev c_N_isUp : ByteArray := prog_3_method_2_code
def y_N_isUp : MethodName := ⟨R_N, "isUp", "()Z"⟩
abbrev c_N_leaveRing : ByteArray := prog_3_method_11_code
def y_N_leaveRing : MethodName := ⟨R_N, "leaveRing", "()V"⟩
abbrev c_N_receive : ByteArray := prog_3_method_5_code
def y_N_receive : MethodName := ⟨R_N, "receive", "(I)V"⟩
abbrev c_R_init : ByteArray := prog_4_method_1_code
def y_R_init : MethodName := ⟨R_R, "<init>", "()V"⟩
abbrev c_R_form : ByteArray := prog_4_method_2_code
def y_R_form : MethodName := ⟨R_R, "form", "(II)V"⟩
abbrev c_R_isRequested : ByteArray := prog_4_method_4_code
def y_R_isRequested : MethodName := ⟨R_R, "isRequested", "(I)Z"⟩
abbrev c_R_isTokenLost : ByteArray := prog_4_method_3_code
def y_R_isTokenLost : MethodName := ⟨R_R, "isTokenLost", "()Z"⟩
abbrev c_R_leastMark : ByteArray := prog_4_method_7_code
def y_R_leastMark : MethodName := ⟨R_R, "leastMark", "()I"⟩
abbrev c_R_markAndRequest : ByteArray := prog_4_method_6_code
def y_R_markAndRequest : MethodName := ⟨R_R, "markAndRequest", "(LRotatingTokenGroup$Node;)V"⟩
abbrev c_R_memberAfter : ByteArray := prog_4_method_8_code
def y_R_memberAfter : MethodName := ⟨R_R, "memberAfter", "(I)I"⟩
abbrev c_R_takeOffRequest : ByteArray := prog_4_method_5_code
def y_R_takeOffRequest : MethodName := ⟨R_R, "takeOffRequest", "(I)V"⟩
abbrev c_Y_init : ByteArray := prog_6_method_1_code
def y_Y_init : MethodName := ⟨R_Y, "<init>", "()V"⟩
abbrev c_Y_append : ByteArray := prog_6_method_12_code
def y_Y_append : MethodName := ⟨R_Y, "append", "(II)V"⟩
abbrev c_Y_broadcast : ByteArray := prog_6_method_11_code
def y_Y_broadcast : MethodName := ⟨R_Y, "broadcast", "(II)V"⟩
abbrev c_Y_clean : ByteArray := prog_6_method_21_code
def y_Y_clean : MethodName := ⟨R_Y, "clean", "(I)V"⟩
abbrev c_Y_crash : ByteArray := prog_6_method_27_code
def y_Y_crash : MethodName := ⟨R_Y, "crash", "(I)Z"⟩
abbrev c_Y_deafen : ByteArray := prog_6_method_30_code
def y_Y_deafen : MethodName := ⟨R_Y, "deafen", "(II)Z"⟩
abbrev c_Y_deliver : ByteArray := prog_6_method_13_code
def y_Y_deliver : MethodName := ⟨R_Y, "deliver", "(I)V"⟩
abbrev c_Y_delivered : ByteArray := prog_6_method_40_code
def y_Y_delivered : MethodName := ⟨R_Y, "delivered", "(I)I"⟩
abbrev c_Y_drop : ByteArray := prog_6_method_31_code
def y_Y_drop : MethodName := ⟨R_Y, "drop", "(I)Z"⟩
abbrev c_Y_enter : ByteArray := prog_6_method_20_code
def y_Y_enter : MethodName := ⟨R_Y, "enter", "(I)V"⟩
abbrev c_Y_finish : ByteArray := prog_6_method_24_code
def y_Y_finish : MethodName := ⟨R_Y, "finish", "(II)V"⟩
abbrev c_Y_first : ByteArray := prog_6_method_8_code
def y_Y_first : MethodName := ⟨R_Y, "first", "(I)I"⟩
abbrev c_Y_form : ByteArray := prog_6_method_25_code
def y_Y_form : MethodName := ⟨R_Y, "form", "(I)V"⟩
abbrev c_Y_has : ByteArray := prog_6_method_6_code
def y_Y_has : MethodName := ⟨R_Y, "has", "(II)Z"⟩
abbrev c_Y_hears : ByteArray := prog_6_method_4_code
def y_Y_hears : MethodName := ⟨R_Y, "hears", "(II)Z"⟩
abbrev c_Y_last : ByteArray := prog_6_method_35_code
def y_Y_last : MethodName := ⟨R_Y, "last", "(I)I"⟩
abbrev c_Y_line : ByteArray := prog_6_method_38_code
def y_Y_line : MethodName := ⟨R_Y, "line", "(I)I"⟩
abbrev c_Y_log : ByteArray := prog_6_method_41_code
def y_Y_log : MethodName := ⟨R_Y, "log", "(II)I"⟩
abbrev c_Y_members : ByteArray := prog_6_method_33_code
def y_Y_members : MethodName := ⟨R_Y, "members", "(I)I"⟩
abbrev c_Y_message : ByteArray := prog_6_method_5_code
def y_Y_message : MethodName := ⟨R_Y, "message", "(II)I"⟩
abbrev c_Y_newRing : ByteArray := prog_6_method_19_code
def y_Y_newRing : MethodName := ⟨R_Y, "newRing", "(II)V"⟩
abbrev c_Y_outside : ByteArray := prog_6_method_2_code
def y_Y_outside : MethodName := ⟨R_Y, "outside", "(I)Z"⟩
abbrev c_Y_passOn : ByteArray := prog_6_method_17_code
def y_Y_passOn : MethodName := ⟨R_Y, "passOn", "(II)V"⟩
abbrev c_Y_place : ByteArray := prog_6_method_29_code
def y_Y_place : MethodName := ⟨R_Y, "place", "(II)Z"⟩
abbrev c_Y_queued : ByteArray := prog_6_method_9_code
def y_Y_queued : MethodName := ⟨R_Y, "queued", "(I)I"⟩
abbrev c_Y_reach : ByteArray := prog_6_method_37_code
def y_Y_reach : MethodName := ⟨R_Y, "reach", "(I)I"⟩
abbrev c_Y_reachOf : ByteArray := prog_6_method_7_code
def y_Y_reachOf : MethodName := ⟨R_Y, "reachOf", "(I)I"⟩
abbrev c_Y_refuse : ByteArray := prog_6_method_3_code
def y_Y_refuse : MethodName := ⟨R_Y, "refuse", "(I)I"⟩
abbrev c_Y_requests : ByteArray := prog_6_method_36_code
def y_Y_requests : MethodName := ⟨R_Y, "requests", "(I)I"⟩
abbrev c_Y_restart : ByteArray := prog_6_method_28_code
def y_Y_restart : MethodName := ⟨R_Y, "restart", "(I)Z"⟩
abbrev c_Y_ring : ByteArray := prog_6_method_32_code
def y_Y_ring : MethodName := ⟨R_Y, "ring", "(I)I"⟩
abbrev c_Y_send : ByteArray := prog_6_method_10_code
def y_Y_send : MethodName := ⟨R_Y, "send", "(IZ)I"⟩
abbrev c_Y_sendAgain : ByteArray := prog_6_method_14_code
def y_Y_sendAgain : MethodName := ⟨R_Y, "sendAgain", "(II)I"⟩
abbrev c_Y_sendNew : ByteArray := prog_6_method_15_code
def y_Y_sendNew : MethodName := ⟨R_Y, "sendNew", "(II)I"⟩
abbrev c_Y_share : ByteArray := prog_6_method_23_code
def y_Y_share : MethodName := ⟨R_Y, "share", "(I)V"⟩
abbrev c_Y_stamp : ByteArray := prog_6_method_42_code
def y_Y_stamp : MethodName := ⟨R_Y, "stamp", "(I)I"⟩
abbrev c_Y_stranger : ByteArray := prog_6_method_16_code
def y_Y_stranger : MethodName := ⟨R_Y, "stranger", "(I)Z"⟩
abbrev c_Y_tick : ByteArray := prog_6_method_26_code
def y_Y_tick : MethodName := ⟨R_Y, "tick", "(I)I"⟩
abbrev c_Y_together : ByteArray := prog_6_method_22_code
def y_Y_together : MethodName := ⟨R_Y, "together", "(II)I"⟩
abbrev c_Y_token : ByteArray := prog_6_method_34_code
def y_Y_token : MethodName := ⟨R_Y, "token", "(I)I"⟩
abbrev c_Y_visit : ByteArray := prog_6_method_18_code
def y_Y_visit : MethodName := ⟨R_Y, "visit", "(I)I"⟩
abbrev c_Y_waiting : ByteArray := prog_6_method_39_code
def y_Y_waiting : MethodName := ⟨R_Y, "waiting", "(I)I"⟩
abbrev c_J_bitCount : ByteArray := prog_7_method_50_code
def y_J_bitCount : MethodName := ⟨R_J, "bitCount", "(J)I"⟩
abbrev c_L_law : ByteArray := code
def pv_RN : String := R_N
def pv_RR : String := R_R
/-- the words that keep -/
def pv_T : List Cond := lw_tbl.filter goodWord
theorem pv_T_good : ∀ w ∈ pv_T, ((w.onTables && w.keeps) = true ∨ ∃ ty, w = .arrayClass ty) := fun w h => good_of_word (List.mem_filter.mp h).2
theorem pv_in {w : Cond} (i : Nat) (h : tables_1[i]? = some w) (hg : goodWord w = true) : w ∈ pv_T := List.mem_filter.mpr ⟨List.mem_append_right _ (List.mem_of_getElem? h), hg⟩
theorem pv_inS {w : Cond} (i : Nat) (h : (k2_sels lw_privs)[i]? = some w) (hg : goodWord w = true) : w ∈ pv_T := List.mem_filter.mpr ⟨List.mem_append_left _ (List.mem_of_getElem? h), hg⟩
set_option maxRecDepth 100000 in
theorem wn_L : Cond.initialized R_L ∈ pv_T := pv_in 0 rfl rfl
set_option maxRecDepth 100000 in
theorem wn_O : Cond.initialized R_O ∈ pv_T := pv_in 1 rfl rfl
set_option maxRecDepth 100000 in
theorem wn_N : Cond.initialized R_N ∈ pv_T := pv_in 2 rfl rfl
set_option maxRecDepth 100000 in
theorem wn_R : Cond.initialized R_R ∈ pv_T := pv_in 3 rfl rfl
set_option maxRecDepth 100000 in
theorem wn_M : Cond.initialized R_M ∈ pv_T := pv_in 4 rfl rfl
set_option maxRecDepth 100000 in
theorem wn_Y : Cond.initialized R_Y ∈ pv_T := pv_in 5 rfl rfl
set_option maxRecDepth 100000 in
theorem wn_Math : Cond.initialized "java/lang/Math" ∈ pv_T := pv_in 6 rfl rfl
set_option maxRecDepth 100000 in
theorem wn_J : Cond.initialized R_J ∈ pv_T := pv_in 7 rfl rfl
set_option maxRecDepth 100000 in
theorem wl_L_7 : Cond.classLink R_L 7 R_O ∈ pv_T := pv_in 8 rfl rfl
set_option maxRecDepth 100000 in
theorem wt_O : Cond.instantiable R_O 4 ∈ pv_T := pv_in 9 rfl rfl
set_option maxRecDepth 100000 in
theorem wm_L_9 : Cond.methodLink R_L 9 y_O_init ∈ pv_T := pv_in 10 rfl rfl
set_option maxRecDepth 100000 in
theorem wi_O_init : Cond.instanceMethod y_O_init ∈ pv_T := pv_in 11 rfl rfl
set_option maxRecDepth 100000 in
theorem wc_O_init : Cond.code y_O_init c_O_init 2 none ∈ pv_T := pv_in 12 rfl rfl
set_option maxRecDepth 100000 in
theorem wm_O_1 : Cond.methodLink R_O 1 objectInit ∈ pv_T := pv_in 13 rfl rfl
set_option maxRecDepth 100000 in
theorem wi_objinit : Cond.instanceMethod objectInit ∈ pv_T := pv_in 14 rfl rfl
set_option maxRecDepth 100000 in
theorem wc_objinit : Cond.code objectInit ⟨#[0xb1]⟩ 1 none ∈ pv_T := pv_in 15 rfl rfl
set_option maxRecDepth 100000 in
theorem wl_O_9 : Cond.classLink R_O 9 R_N ∈ pv_T := pv_in 16 rfl rfl
set_option maxRecDepth 100000 in
theorem wt_N : Cond.instantiable R_N 12 ∈ pv_T := pv_in 18 rfl rfl
set_option maxRecDepth 100000 in
theorem wm_O_15 : Cond.methodLink R_O 15 y_N_init ∈ pv_T := pv_in 19 rfl rfl
set_option maxRecDepth 100000 in
theorem wi_N_init : Cond.instanceMethod y_N_init ∈ pv_T := pv_in 20 rfl rfl
set_option maxRecDepth 100000 in
theorem wc_N_init : Cond.code y_N_init c_N_init 2 none ∈ pv_T := pv_in 21 rfl rfl
set_option maxRecDepth 100000 in
theorem wm_N_3 : Cond.methodLink R_N 3 objectInit ∈ pv_T := pv_in 22 rfl rfl
set_option maxRecDepth 100000 in
theorem wf_N_9 : Cond.fieldLink R_N 9 "RotatingTokenGroup$Node" "number" "I" ∈ pv_T := pv_in 23 rfl rfl
set_option maxRecDepth 100000 in
theorem wf_R_41 : Cond.fieldLink R_R 41 "RotatingTokenGroup$Node" "number" "I" ∈ pv_T := pv_in 24 rfl rfl
set_option maxRecDepth 100000 in
theorem wf_O_196 : Cond.fieldLink R_O 196 "RotatingTokenGroup$Node" "number" "I" ∈ pv_T := pv_in 25 rfl rfl
set_option maxRecDepth 100000 in
theorem wf_N_15 : Cond.fieldLink R_N 15 "RotatingTokenGroup$Node" "queue" "[I" ∈ pv_T := pv_in 26 rfl rfl
set_option maxRecDepth 100000 in
theorem wf_N_19 : Cond.fieldLink R_N 19 "RotatingTokenGroup$Node" "entries" "[I" ∈ pv_T := pv_in 27 rfl rfl
set_option maxRecDepth 100000 in
theorem wf_O_143 : Cond.fieldLink R_O 143 "RotatingTokenGroup$Node" "entries" "[I" ∈ pv_T := pv_in 28 rfl rfl
set_option maxRecDepth 100000 in
theorem wf_N_22 : Cond.fieldLink R_N 22 "RotatingTokenGroup$Node" "ring" "LRotatingTokenGroup$Ring;" ∈ pv_T := pv_in 29 rfl rfl
set_option maxRecDepth 100000 in
theorem wf_O_60 : Cond.fieldLink R_O 60 "RotatingTokenGroup$Node" "ring" "LRotatingTokenGroup$Ring;" ∈ pv_T := pv_in 30 rfl rfl
set_option maxRecDepth 100000 in
theorem wf_N_26 : Cond.fieldLink R_N 26 "RotatingTokenGroup$Node" "held" "J" ∈ pv_T := pv_in 31 rfl rfl
set_option maxRecDepth 100000 in
theorem wf_O_216 : Cond.fieldLink R_O 216 "RotatingTokenGroup$Node" "held" "J" ∈ pv_T := pv_in 32 rfl rfl
set_option maxRecDepth 100000 in
theorem wf_O_50 : Cond.fieldLink R_O 50 "RotatingTokenGroup$Node" "queued" "I" ∈ pv_T := pv_in 33 rfl rfl
set_option maxRecDepth 100000 in
theorem wf_N_41 : Cond.fieldLink R_N 41 "RotatingTokenGroup$Node" "queued" "I" ∈ pv_T := pv_in 34 rfl rfl
set_option maxRecDepth 100000 in
theorem wf_N_50 : Cond.fieldLink R_N 50 "RotatingTokenGroup$Node" "logged" "I" ∈ pv_T := pv_in 35 rfl rfl
set_option maxRecDepth 100000 in
theorem wf_O_140 : Cond.fieldLink R_O 140 "RotatingTokenGroup$Node" "logged" "I" ∈ pv_T := pv_in 36 rfl rfl
set_option maxRecDepth 100000 in
theorem wf_O_96 : Cond.fieldLink R_O 96 "RotatingTokenGroup$Node" "area" "I" ∈ pv_T := pv_in 37 rfl rfl
set_option maxRecDepth 100000 in
theorem wf_O_82 : Cond.fieldLink R_O 82 "RotatingTokenGroup$Node" "line" "I" ∈ pv_T := pv_in 38 rfl rfl
set_option maxRecDepth 100000 in
theorem wf_N_61 : Cond.fieldLink R_N 61 "RotatingTokenGroup$Node" "line" "I" ∈ pv_T := pv_in 39 rfl rfl
set_option maxRecDepth 100000 in
theorem wf_N_64 : Cond.fieldLink R_N 64 "RotatingTokenGroup$Node" "place" "I" ∈ pv_T := pv_in 40 rfl rfl
set_option maxRecDepth 100000 in
theorem wf_O_182 : Cond.fieldLink R_O 182 "RotatingTokenGroup$Node" "place" "I" ∈ pv_T := pv_in 41 rfl rfl
set_option maxRecDepth 100000 in
theorem wf_N_30 : Cond.fieldLink R_N 30 "RotatingTokenGroup$Node" "deafness" "I" ∈ pv_T := pv_in 42 rfl rfl
set_option maxRecDepth 100000 in
theorem wf_O_112 : Cond.fieldLink R_O 112 "RotatingTokenGroup$Node" "deafness" "I" ∈ pv_T := pv_in 43 rfl rfl
set_option maxRecDepth 100000 in
theorem wf_O_89 : Cond.fieldLink R_O 89 "RotatingTokenGroup$Node" "timer" "I" ∈ pv_T := pv_in 44 rfl rfl
set_option maxRecDepth 100000 in
theorem wf_N_67 : Cond.fieldLink R_N 67 "RotatingTokenGroup$Node" "timer" "I" ∈ pv_T := pv_in 45 rfl rfl
set_option maxRecDepth 100000 in
theorem wa_int : Cond.arrayClass Jvm.ClassFile.FieldType.int ∈ pv_T := pv_in 71 rfl rfl
set_option maxRecDepth 100000 in
theorem wl_O_18 : Cond.classLink R_O 18 R_R ∈ pv_T := pv_in 72 rfl rfl
set_option maxRecDepth 100000 in
theorem wt_R : Cond.instantiable R_R 7 ∈ pv_T := pv_in 74 rfl rfl
set_option maxRecDepth 100000 in
theorem wm_O_24 : Cond.methodLink R_O 24 y_R_init ∈ pv_T := pv_in 75 rfl rfl
set_option maxRecDepth 100000 in
theorem wi_R_init : Cond.instanceMethod y_R_init ∈ pv_T := pv_in 76 rfl rfl
set_option maxRecDepth 100000 in
theorem wc_R_init : Cond.code y_R_init c_R_init 1 none ∈ pv_T := pv_in 77 rfl rfl
set_option maxRecDepth 100000 in
theorem wm_R_3 : Cond.methodLink R_R 3 objectInit ∈ pv_T := pv_in 78 rfl rfl
set_option maxRecDepth 100000 in
theorem wf_R_9 : Cond.fieldLink R_R 9 "RotatingTokenGroup$Ring" "messageAt" "[I" ∈ pv_T := pv_in 79 rfl rfl
set_option maxRecDepth 100000 in
theorem wf_O_166 : Cond.fieldLink R_O 166 "RotatingTokenGroup$Ring" "messageAt" "[I" ∈ pv_T := pv_in 80 rfl rfl
set_option maxRecDepth 100000 in
theorem wf_R_15 : Cond.fieldLink R_R 15 "RotatingTokenGroup$Ring" "marks" "[I" ∈ pv_T := pv_in 81 rfl rfl
set_option maxRecDepth 100000 in
theorem wf_R_22 : Cond.fieldLink R_R 22 "RotatingTokenGroup$Ring" "number" "I" ∈ pv_T := pv_in 82 rfl rfl
set_option maxRecDepth 100000 in
theorem wf_O_118 : Cond.fieldLink R_O 118 "RotatingTokenGroup$Ring" "number" "I" ∈ pv_T := pv_in 83 rfl rfl
set_option maxRecDepth 100000 in
theorem wf_R_25 : Cond.fieldLink R_R 25 "RotatingTokenGroup$Ring" "members" "I" ∈ pv_T := pv_in 84 rfl rfl
set_option maxRecDepth 100000 in
theorem wf_O_121 : Cond.fieldLink R_O 121 "RotatingTokenGroup$Ring" "members" "I" ∈ pv_T := pv_in 85 rfl rfl
set_option maxRecDepth 100000 in
theorem wf_R_18 : Cond.fieldLink R_R 18 "RotatingTokenGroup$Ring" "tokenAt" "I" ∈ pv_T := pv_in 86 rfl rfl
set_option maxRecDepth 100000 in
theorem wf_O_64 : Cond.fieldLink R_O 64 "RotatingTokenGroup$Ring" "tokenAt" "I" ∈ pv_T := pv_in 87 rfl rfl
set_option maxRecDepth 100000 in
theorem wf_N_56 : Cond.fieldLink R_N 56 "RotatingTokenGroup$Ring" "tokenAt" "I" ∈ pv_T := pv_in 88 rfl rfl
set_option maxRecDepth 100000 in
theorem wf_R_32 : Cond.fieldLink R_R 32 "RotatingTokenGroup$Ring" "last" "I" ∈ pv_T := pv_in 89 rfl rfl
set_option maxRecDepth 100000 in
theorem wf_O_124 : Cond.fieldLink R_O 124 "RotatingTokenGroup$Ring" "last" "I" ∈ pv_T := pv_in 90 rfl rfl
set_option maxRecDepth 100000 in
theorem wf_R_35 : Cond.fieldLink R_R 35 "RotatingTokenGroup$Ring" "requests" "J" ∈ pv_T := pv_in 91 rfl rfl
set_option maxRecDepth 100000 in
theorem wf_O_127 : Cond.fieldLink R_O 127 "RotatingTokenGroup$Ring" "requests" "J" ∈ pv_T := pv_in 92 rfl rfl
set_option maxRecDepth 100000 in
theorem wl_O_25 : Cond.classLink R_O 25 R_M ∈ pv_T := pv_in 108 rfl rfl
set_option maxRecDepth 100000 in
theorem wt_M : Cond.instantiable R_M 4 ∈ pv_T := pv_in 109 rfl rfl
set_option maxRecDepth 100000 in
theorem wm_O_27 : Cond.methodLink R_O 27 y_M_init ∈ pv_T := pv_in 110 rfl rfl
set_option maxRecDepth 100000 in
theorem wi_M_init : Cond.instanceMethod y_M_init ∈ pv_T := pv_in 111 rfl rfl
set_option maxRecDepth 100000 in
theorem wc_M_init : Cond.code y_M_init c_M_init 1 none ∈ pv_T := pv_in 112 rfl rfl
set_option maxRecDepth 100000 in
theorem wm_M_3 : Cond.methodLink R_M 3 objectInit ∈ pv_T := pv_in 113 rfl rfl
set_option maxRecDepth 100000 in
theorem wf_M_9 : Cond.fieldLink R_M 9 "RotatingTokenGroup$Messages" "origins" "[I" ∈ pv_T := pv_in 114 rfl rfl
set_option maxRecDepth 100000 in
theorem wf_O_229 : Cond.fieldLink R_O 229 "RotatingTokenGroup$Messages" "origins" "[I" ∈ pv_T := pv_in 115 rfl rfl
set_option maxRecDepth 100000 in
theorem wf_M_15 : Cond.fieldLink R_M 15 "RotatingTokenGroup$Messages" "safe" "[Z" ∈ pv_T := pv_in 116 rfl rfl
set_option maxRecDepth 100000 in
theorem wf_O_192 : Cond.fieldLink R_O 192 "RotatingTokenGroup$Messages" "safe" "[Z" ∈ pv_T := pv_in 117 rfl rfl
set_option maxRecDepth 100000 in
theorem wf_M_19 : Cond.fieldLink R_M 19 "RotatingTokenGroup$Messages" "stamps" "[I" ∈ pv_T := pv_in 118 rfl rfl
set_option maxRecDepth 100000 in
theorem wf_O_147 : Cond.fieldLink R_O 147 "RotatingTokenGroup$Messages" "stamps" "[I" ∈ pv_T := pv_in 119 rfl rfl
set_option maxRecDepth 100000 in
theorem wf_M_22 : Cond.fieldLink R_M 22 "RotatingTokenGroup$Messages" "taken" "I" ∈ pv_T := pv_in 120 rfl rfl
set_option maxRecDepth 100000 in
theorem wf_O_47 : Cond.fieldLink R_O 47 "RotatingTokenGroup$Messages" "taken" "I" ∈ pv_T := pv_in 121 rfl rfl
set_option maxRecDepth 100000 in
theorem wa_boolean : Cond.arrayClass Jvm.ClassFile.FieldType.boolean ∈ pv_T := pv_in 131 rfl rfl
set_option maxRecDepth 100000 in
theorem wm_O_36 : Cond.methodLink R_O 36 y_O_enterNewRing ∈ pv_T := pv_in 132 rfl rfl
set_option maxRecDepth 100000 in
theorem wi_O_enterNewRing : Cond.instanceMethod y_O_enterNewRing ∈ pv_T := pv_in 134 rfl rfl
set_option maxRecDepth 100000 in
theorem wc_O_enterNewRing : Cond.code y_O_enterNewRing c_O_enterNewRing 4 none ∈ pv_T := pv_in 135 rfl rfl
set_option maxRecDepth 100000 in
theorem wm_O_232 : Cond.methodLink R_O 232 y_O_unusedRing ∈ pv_T := pv_in 136 rfl rfl
set_option maxRecDepth 100000 in
theorem wi_O_unusedRing : Cond.instanceMethod y_O_unusedRing ∈ pv_T := pv_in 138 rfl rfl
set_option maxRecDepth 100000 in
theorem wc_O_unusedRing : Cond.code y_O_unusedRing c_O_unusedRing 2 (some (.object "RotatingTokenGroup$Ring")) ∈ pv_T := pv_in 139 rfl rfl
set_option maxRecDepth 100000 in
theorem wm_O_204 : Cond.methodLink R_O 204 y_O_nodesOf ∈ pv_T := pv_in 140 rfl rfl
set_option maxRecDepth 100000 in
theorem wi_O_nodesOf : Cond.instanceMethod y_O_nodesOf ∈ pv_T := pv_in 142 rfl rfl
set_option maxRecDepth 100000 in
theorem wc_O_nodesOf : Cond.code y_O_nodesOf c_O_nodesOf 4 (some .int) ∈ pv_T := pv_in 143 rfl rfl
set_option maxRecDepth 100000 in
theorem wm_O_236 : Cond.methodLink R_O 236 y_R_form ∈ pv_T := pv_in 144 rfl rfl
set_option maxRecDepth 100000 in
theorem wi_R_form : Cond.instanceMethod y_R_form ∈ pv_T := pv_in 145 rfl rfl
set_option maxRecDepth 100000 in
theorem we_R_form : Cond.selects R_R y_R_form y_R_form ∈ pv_T := pv_in 146 rfl rfl
set_option maxRecDepth 100000 in
theorem wc_R_form : Cond.code y_R_form c_R_form 4 none ∈ pv_T := pv_in 147 rfl rfl
set_option maxRecDepth 100000 in
theorem wm_R_28 : Cond.methodLink R_R 28 y_R_memberAfter ∈ pv_T := pv_in 148 rfl rfl
set_option maxRecDepth 100000 in
theorem wi_R_memberAfter : Cond.instanceMethod y_R_memberAfter ∈ pv_T := pv_in 149 rfl rfl
set_option maxRecDepth 100000 in
theorem we_R_memberAfter : Cond.selects R_R y_R_memberAfter y_R_memberAfter ∈ pv_T := pv_in 150 rfl rfl
set_option maxRecDepth 100000 in
theorem wc_R_memberAfter : Cond.code y_R_memberAfter c_R_memberAfter 4 (some .int) ∈ pv_T := pv_in 151 rfl rfl
set_option maxRecDepth 100000 in
theorem ws_O_isIn : Cond.static y_O_isIn ∈ pv_T := pv_in 153 rfl rfl
set_option maxRecDepth 100000 in
theorem wc_O_isIn : Cond.code y_O_isIn c_O_isIn 2 (some .boolean) ∈ pv_T := pv_in 154 rfl rfl
set_option maxRecDepth 100000 in
theorem wm_O_212 : Cond.methodLink R_O 212 y_O_isIn ∈ pv_T := pv_in 155 rfl rfl
set_option maxRecDepth 100000 in
theorem wm_O_240 : Cond.methodLink R_O 240 y_N_enter ∈ pv_T := pv_in 156 rfl rfl
set_option maxRecDepth 100000 in
theorem wi_N_enter : Cond.instanceMethod y_N_enter ∈ pv_T := pv_in 157 rfl rfl
set_option maxRecDepth 100000 in
theorem we_N_enter : Cond.selects R_N y_N_enter y_N_enter ∈ pv_T := pv_in 158 rfl rfl
set_option maxRecDepth 100000 in
theorem wc_N_enter : Cond.code y_N_enter c_N_enter 2 none ∈ pv_T := pv_in 159 rfl rfl
set_option maxRecDepth 100000 in
theorem wm_N_53 : Cond.methodLink R_N 53 y_N_leaveRing ∈ pv_T := pv_in 160 rfl rfl
set_option maxRecDepth 100000 in
theorem wi_N_leaveRing : Cond.instanceMethod y_N_leaveRing ∈ pv_T := pv_in 161 rfl rfl
set_option maxRecDepth 100000 in
theorem we_N_leaveRing : Cond.selects R_N y_N_leaveRing y_N_leaveRing ∈ pv_T := pv_in 162 rfl rfl
set_option maxRecDepth 100000 in
theorem wc_N_leaveRing : Cond.code y_N_leaveRing c_N_leaveRing 1 none ∈ pv_T := pv_in 163 rfl rfl
set_option maxRecDepth 100000 in
theorem wf_O_11 : Cond.fieldLink R_O 11 "RotatingTokenGroup" "nodes" "[LRotatingTokenGroup$Node;" ∈ pv_T := pv_in 164 rfl rfl
set_option maxRecDepth 100000 in
theorem wf_O_20 : Cond.fieldLink R_O 20 "RotatingTokenGroup" "rings" "[LRotatingTokenGroup$Ring;" ∈ pv_T := pv_in 165 rfl rfl
set_option maxRecDepth 100000 in
theorem wf_O_28 : Cond.fieldLink R_O 28 "RotatingTokenGroup" "messages" "LRotatingTokenGroup$Messages;" ∈ pv_T := pv_in 166 rfl rfl
set_option maxRecDepth 100000 in
theorem wf_O_32 : Cond.fieldLink R_O 32 "RotatingTokenGroup" "greatestRing" "I" ∈ pv_T := pv_in 167 rfl rfl
set_option maxRecDepth 100000 in
theorem wm_L_13 : Cond.methodLink R_L 13 y_O_send ∈ pv_T := pv_in 177 rfl rfl
set_option maxRecDepth 100000 in
theorem wi_O_send : Cond.instanceMethod y_O_send ∈ pv_T := pv_in 178 rfl rfl
set_option maxRecDepth 100000 in
theorem we_O_send : Cond.selects R_O y_O_send y_O_send ∈ pv_T := pv_in 179 rfl rfl
set_option maxRecDepth 100000 in
theorem wc_O_send : Cond.code y_O_send c_O_send 5 (some .int) ∈ pv_T := pv_in 180 rfl rfl
set_option maxRecDepth 100000 in
theorem wm_O_39 : Cond.methodLink R_O 39 y_O_isNode ∈ pv_T := pv_in 181 rfl rfl
set_option maxRecDepth 100000 in
theorem ws_O_isNode : Cond.static y_O_isNode ∈ pv_T := pv_in 182 rfl rfl
set_option maxRecDepth 100000 in
theorem wc_O_isNode : Cond.code y_O_isNode c_O_isNode 1 (some .boolean) ∈ pv_T := pv_in 183 rfl rfl
set_option maxRecDepth 100000 in
theorem wm_O_43 : Cond.methodLink R_O 43 y_N_isUp ∈ pv_T := pv_in 184 rfl rfl
set_option maxRecDepth 100000 in
theorem wi_N_isUp : Cond.instanceMethod y_N_isUp ∈ pv_T := pv_in 185 rfl rfl
set_option maxRecDepth 100000 in
theorem we_N_isUp : Cond.selects R_N y_N_isUp y_N_isUp ∈ pv_T := pv_in 186 rfl rfl
set_option maxRecDepth 100000 in
theorem wc_N_isUp : Cond.code y_N_isUp c_N_isUp 1 (some .boolean) ∈ pv_T := pv_in 187 rfl rfl
set_option maxRecDepth 100000 in
theorem wm_O_53 : Cond.methodLink R_O 53 y_M_take ∈ pv_T := pv_in 188 rfl rfl
set_option maxRecDepth 100000 in
theorem wi_M_take : Cond.instanceMethod y_M_take ∈ pv_T := pv_in 189 rfl rfl
set_option maxRecDepth 100000 in
theorem we_M_take : Cond.selects R_M y_M_take y_M_take ∈ pv_T := pv_in 190 rfl rfl
set_option maxRecDepth 100000 in
theorem wc_M_take : Cond.code y_M_take c_M_take 3 (some .int) ∈ pv_T := pv_in 191 rfl rfl
set_option maxRecDepth 100000 in
theorem wm_O_57 : Cond.methodLink R_O 57 y_N_enqueue ∈ pv_T := pv_in 192 rfl rfl
set_option maxRecDepth 100000 in
theorem wi_N_enqueue : Cond.instanceMethod y_N_enqueue ∈ pv_T := pv_in 193 rfl rfl
set_option maxRecDepth 100000 in
theorem we_N_enqueue : Cond.selects R_N y_N_enqueue y_N_enqueue ∈ pv_T := pv_in 194 rfl rfl
set_option maxRecDepth 100000 in
theorem wc_N_enqueue : Cond.code y_N_enqueue c_N_enqueue 2 none ∈ pv_T := pv_in 195 rfl rfl
set_option maxRecDepth 100000 in
theorem wm_L_18 : Cond.methodLink R_L 18 y_O_visit ∈ pv_T := pv_in 196 rfl rfl
set_option maxRecDepth 100000 in
theorem wi_O_visit : Cond.instanceMethod y_O_visit ∈ pv_T := pv_in 197 rfl rfl
set_option maxRecDepth 100000 in
theorem we_O_visit : Cond.selects R_O y_O_visit y_O_visit ∈ pv_T := pv_in 198 rfl rfl
set_option maxRecDepth 100000 in
theorem wc_O_visit : Cond.code y_O_visit c_O_visit 6 (some .int) ∈ pv_T := pv_in 199 rfl rfl
set_option maxRecDepth 100000 in
theorem wm_O_67 : Cond.methodLink R_O 67 y_O_broadcastRequests ∈ pv_T := pv_in 200 rfl rfl
set_option maxRecDepth 100000 in
theorem wi_O_broadcastRequests : Cond.instanceMethod y_O_broadcastRequests ∈ pv_T := pv_in 202 rfl rfl
set_option maxRecDepth 100000 in
theorem wc_O_broadcastRequests : Cond.code y_O_broadcastRequests c_O_broadcastRequests 5 (some .int) ∈ pv_T := pv_in 203 rfl rfl
set_option maxRecDepth 100000 in
theorem wm_O_150 : Cond.methodLink R_O 150 y_R_isRequested ∈ pv_T := pv_in 204 rfl rfl
set_option maxRecDepth 100000 in
theorem wi_R_isRequested : Cond.instanceMethod y_R_isRequested ∈ pv_T := pv_in 205 rfl rfl
set_option maxRecDepth 100000 in
theorem we_R_isRequested : Cond.selects R_R y_R_isRequested y_R_isRequested ∈ pv_T := pv_in 206 rfl rfl
set_option maxRecDepth 100000 in
theorem wc_R_isRequested : Cond.code y_R_isRequested c_R_isRequested 2 (some .boolean) ∈ pv_T := pv_in 207 rfl rfl
set_option maxRecDepth 100000 in
theorem wm_O_153 : Cond.methodLink R_O 153 y_N_holds ∈ pv_T := pv_in 208 rfl rfl
set_option maxRecDepth 100000 in
theorem wi_N_holds : Cond.instanceMethod y_N_holds ∈ pv_T := pv_in 209 rfl rfl
set_option maxRecDepth 100000 in
theorem we_N_holds : Cond.selects R_N y_N_holds y_N_holds ∈ pv_T := pv_in 210 rfl rfl
set_option maxRecDepth 100000 in
theorem wc_N_holds : Cond.code y_N_holds c_N_holds 2 (some .boolean) ∈ pv_T := pv_in 211 rfl rfl
set_option maxRecDepth 100000 in
theorem wm_O_156 : Cond.methodLink R_O 156 y_R_takeOffRequest ∈ pv_T := pv_in 212 rfl rfl
set_option maxRecDepth 100000 in
theorem wi_R_takeOffRequest : Cond.instanceMethod y_R_takeOffRequest ∈ pv_T := pv_in 213 rfl rfl
set_option maxRecDepth 100000 in
theorem we_R_takeOffRequest : Cond.selects R_R y_R_takeOffRequest y_R_takeOffRequest ∈ pv_T := pv_in 214 rfl rfl
set_option maxRecDepth 100000 in
theorem wc_R_takeOffRequest : Cond.code y_R_takeOffRequest c_R_takeOffRequest 2 none ∈ pv_T := pv_in 215 rfl rfl
set_option maxRecDepth 100000 in
theorem wk_R_39 : Cond.constantLong R_R 39 (-1 : Int64) ∈ pv_T := pv_in 216 rfl rfl
set_option maxRecDepth 100000 in
theorem wm_O_159 : Cond.methodLink R_O 159 y_O_broadcast ∈ pv_T := pv_in 217 rfl rfl
set_option maxRecDepth 100000 in
theorem wi_O_broadcast : Cond.instanceMethod y_O_broadcast ∈ pv_T := pv_in 219 rfl rfl
set_option maxRecDepth 100000 in
theorem wc_O_broadcast : Cond.code y_O_broadcast c_O_broadcast 7 none ∈ pv_T := pv_in 220 rfl rfl
set_option maxRecDepth 100000 in
theorem wm_O_169 : Cond.methodLink R_O 169 y_N_hold ∈ pv_T := pv_in 221 rfl rfl
set_option maxRecDepth 100000 in
theorem wi_N_hold : Cond.instanceMethod y_N_hold ∈ pv_T := pv_in 222 rfl rfl
set_option maxRecDepth 100000 in
theorem we_N_hold : Cond.selects R_N y_N_hold y_N_hold ∈ pv_T := pv_in 223 rfl rfl
set_option maxRecDepth 100000 in
theorem wc_N_hold : Cond.code y_N_hold c_N_hold 2 none ∈ pv_T := pv_in 224 rfl rfl
set_option maxRecDepth 100000 in
theorem wm_O_172 : Cond.methodLink R_O 172 y_O_hearEachOther ∈ pv_T := pv_in 225 rfl rfl
set_option maxRecDepth 100000 in
theorem ws_O_hearEachOther : Cond.static y_O_hearEachOther ∈ pv_T := pv_in 226 rfl rfl
set_option maxRecDepth 100000 in
theorem wc_O_hearEachOther : Cond.code y_O_hearEachOther c_O_hearEachOther 2 (some .boolean) ∈ pv_T := pv_in 227 rfl rfl
set_option maxRecDepth 100000 in
theorem wm_O_176 : Cond.methodLink R_O 176 y_N_receive ∈ pv_T := pv_in 228 rfl rfl
set_option maxRecDepth 100000 in
theorem wi_N_receive : Cond.instanceMethod y_N_receive ∈ pv_T := pv_in 229 rfl rfl
set_option maxRecDepth 100000 in
theorem we_N_receive : Cond.selects R_N y_N_receive y_N_receive ∈ pv_T := pv_in 230 rfl rfl
set_option maxRecDepth 100000 in
theorem wc_N_receive : Cond.code y_N_receive c_N_receive 2 none ∈ pv_T := pv_in 231 rfl rfl
set_option maxRecDepth 100000 in
theorem wm_N_33 : Cond.methodLink R_N 33 y_N_hold ∈ pv_T := pv_in 232 rfl rfl
set_option maxRecDepth 100000 in
theorem wm_O_71 : Cond.methodLink R_O 71 y_O_broadcastNew ∈ pv_T := pv_in 233 rfl rfl
set_option maxRecDepth 100000 in
theorem wi_O_broadcastNew : Cond.instanceMethod y_O_broadcastNew ∈ pv_T := pv_in 235 rfl rfl
set_option maxRecDepth 100000 in
theorem wc_O_broadcastNew : Cond.code y_O_broadcastNew c_O_broadcastNew 5 (some .int) ∈ pv_T := pv_in 236 rfl rfl
set_option maxRecDepth 100000 in
theorem wm_O_163 : Cond.methodLink R_O 163 y_N_dequeue ∈ pv_T := pv_in 237 rfl rfl
set_option maxRecDepth 100000 in
theorem wi_N_dequeue : Cond.instanceMethod y_N_dequeue ∈ pv_T := pv_in 238 rfl rfl
set_option maxRecDepth 100000 in
theorem we_N_dequeue : Cond.selects R_N y_N_dequeue y_N_dequeue ∈ pv_T := pv_in 239 rfl rfl
set_option maxRecDepth 100000 in
theorem wc_N_dequeue : Cond.code y_N_dequeue c_N_dequeue 3 (some .int) ∈ pv_T := pv_in 240 rfl rfl
set_option maxRecDepth 100000 in
theorem wm_N_44 : Cond.methodLink R_N 44 Lib.Math.max.name ∈ pv_T := pv_in 241 rfl rfl
set_option maxRecDepth 100000 in
theorem ws_max : Cond.static Lib.Math.max.name ∈ pv_T := pv_in 242 rfl rfl
set_option maxRecDepth 100000 in
theorem wc_max : Cond.code Lib.Math.max.name Lib.Math.max.code 2 (some .int) ∈ pv_T := pv_in 243 rfl rfl
set_option maxRecDepth 100000 in
theorem wm_O_74 : Cond.methodLink R_O 74 y_R_markAndRequest ∈ pv_T := pv_in 244 rfl rfl
set_option maxRecDepth 100000 in
theorem wi_R_markAndRequest : Cond.instanceMethod y_R_markAndRequest ∈ pv_T := pv_in 245 rfl rfl
set_option maxRecDepth 100000 in
theorem we_R_markAndRequest : Cond.selects R_R y_R_markAndRequest y_R_markAndRequest ∈ pv_T := pv_in 246 rfl rfl
set_option maxRecDepth 100000 in
theorem wc_R_markAndRequest : Cond.code y_R_markAndRequest c_R_markAndRequest 3 none ∈ pv_T := pv_in 247 rfl rfl
set_option maxRecDepth 100000 in
theorem wm_R_44 : Cond.methodLink R_R 44 y_N_heldWithoutGap ∈ pv_T := pv_in 248 rfl rfl
set_option maxRecDepth 100000 in
theorem wi_N_heldWithoutGap : Cond.instanceMethod y_N_heldWithoutGap ∈ pv_T := pv_in 249 rfl rfl
set_option maxRecDepth 100000 in
theorem we_N_heldWithoutGap : Cond.selects R_N y_N_heldWithoutGap y_N_heldWithoutGap ∈ pv_T := pv_in 250 rfl rfl
set_option maxRecDepth 100000 in
theorem wc_N_heldWithoutGap : Cond.code y_N_heldWithoutGap c_N_heldWithoutGap 2 (some .int) ∈ pv_T := pv_in 251 rfl rfl
set_option maxRecDepth 100000 in
theorem wm_N_37 : Cond.methodLink R_N 37 y_N_holds ∈ pv_T := pv_in 252 rfl rfl
set_option maxRecDepth 100000 in
theorem wm_R_48 : Cond.methodLink R_R 48 y_N_holds ∈ pv_T := pv_in 253 rfl rfl
set_option maxRecDepth 100000 in
theorem wm_O_78 : Cond.methodLink R_O 78 y_R_leastMark ∈ pv_T := pv_in 254 rfl rfl
set_option maxRecDepth 100000 in
theorem wi_R_leastMark : Cond.instanceMethod y_R_leastMark ∈ pv_T := pv_in 255 rfl rfl
set_option maxRecDepth 100000 in
theorem we_R_leastMark : Cond.selects R_R y_R_leastMark y_R_leastMark ∈ pv_T := pv_in 256 rfl rfl
set_option maxRecDepth 100000 in
theorem wc_R_leastMark : Cond.code y_R_leastMark c_R_leastMark 3 (some .int) ∈ pv_T := pv_in 257 rfl rfl
set_option maxRecDepth 100000 in
theorem wm_R_56 : Cond.methodLink R_R 56 Lib.Math.min.name ∈ pv_T := pv_in 258 rfl rfl
set_option maxRecDepth 100000 in
theorem ws_min : Cond.static Lib.Math.min.name ∈ pv_T := pv_in 259 rfl rfl
set_option maxRecDepth 100000 in
theorem wc_min : Cond.code Lib.Math.min.name Lib.Math.min.code 2 (some .int) ∈ pv_T := pv_in 260 rfl rfl
set_option maxRecDepth 100000 in
theorem wm_O_85 : Cond.methodLink R_O 85 y_O_deliverInRing ∈ pv_T := pv_in 261 rfl rfl
set_option maxRecDepth 100000 in
theorem wi_O_deliverInRing : Cond.instanceMethod y_O_deliverInRing ∈ pv_T := pv_in 263 rfl rfl
set_option maxRecDepth 100000 in
theorem wc_O_deliverInRing : Cond.code y_O_deliverInRing c_O_deliverInRing 6 none ∈ pv_T := pv_in 264 rfl rfl
set_option maxRecDepth 100000 in
theorem wm_O_179 : Cond.methodLink R_O 179 y_O_deliverRegular ∈ pv_T := pv_in 265 rfl rfl
set_option maxRecDepth 100000 in
theorem wi_O_deliverRegular : Cond.instanceMethod y_O_deliverRegular ∈ pv_T := pv_in 267 rfl rfl
set_option maxRecDepth 100000 in
theorem wc_O_deliverRegular : Cond.code y_O_deliverRegular c_O_deliverRegular 4 none ∈ pv_T := pv_in 268 rfl rfl
set_option maxRecDepth 100000 in
theorem wm_O_185 : Cond.methodLink R_O 185 y_O_isDeliverable ∈ pv_T := pv_in 269 rfl rfl
set_option maxRecDepth 100000 in
theorem wi_O_isDeliverable : Cond.instanceMethod y_O_isDeliverable ∈ pv_T := pv_in 271 rfl rfl
set_option maxRecDepth 100000 in
theorem wc_O_isDeliverable : Cond.code y_O_isDeliverable c_O_isDeliverable 4 (some .boolean) ∈ pv_T := pv_in 272 rfl rfl
set_option maxRecDepth 100000 in
theorem wm_O_189 : Cond.methodLink R_O 189 y_N_append ∈ pv_T := pv_in 273 rfl rfl
set_option maxRecDepth 100000 in
theorem wi_N_append : Cond.instanceMethod y_N_append ∈ pv_T := pv_in 274 rfl rfl
set_option maxRecDepth 100000 in
theorem we_N_append : Cond.selects R_N y_N_append y_N_append ∈ pv_T := pv_in 275 rfl rfl
set_option maxRecDepth 100000 in
theorem wc_N_append : Cond.code y_N_append c_N_append 2 none ∈ pv_T := pv_in 276 rfl rfl
set_option maxRecDepth 100000 in
theorem wm_O_92 : Cond.methodLink R_O 92 y_O_hasStranger ∈ pv_T := pv_in 277 rfl rfl
set_option maxRecDepth 100000 in
theorem wi_O_hasStranger : Cond.instanceMethod y_O_hasStranger ∈ pv_T := pv_in 279 rfl rfl
set_option maxRecDepth 100000 in
theorem wc_O_hasStranger : Cond.code y_O_hasStranger c_O_hasStranger 6 (some .boolean) ∈ pv_T := pv_in 280 rfl rfl
set_option maxRecDepth 100000 in
theorem wm_O_99 : Cond.methodLink R_O 99 y_O_formAnew ∈ pv_T := pv_in 281 rfl rfl
set_option maxRecDepth 100000 in
theorem wi_O_formAnew : Cond.instanceMethod y_O_formAnew ∈ pv_T := pv_in 283 rfl rfl
set_option maxRecDepth 100000 in
theorem wc_O_formAnew : Cond.code y_O_formAnew c_O_formAnew 8 none ∈ pv_T := pv_in 284 rfl rfl
set_option maxRecDepth 100000 in
theorem wm_O_201 : Cond.methodLink R_O 201 y_O_upNodesIn ∈ pv_T := pv_in 285 rfl rfl
set_option maxRecDepth 100000 in
theorem wi_O_upNodesIn : Cond.instanceMethod y_O_upNodesIn ∈ pv_T := pv_in 287 rfl rfl
set_option maxRecDepth 100000 in
theorem wc_O_upNodesIn : Cond.code y_O_upNodesIn c_O_upNodesIn 4 (some .int) ∈ pv_T := pv_in 288 rfl rfl
set_option maxRecDepth 100000 in
theorem wm_O_208 : Cond.methodLink R_O 208 y_O_deliverLeftOver ∈ pv_T := pv_in 289 rfl rfl
set_option maxRecDepth 100000 in
theorem wi_O_deliverLeftOver : Cond.instanceMethod y_O_deliverLeftOver ∈ pv_T := pv_in 291 rfl rfl
set_option maxRecDepth 100000 in
theorem wc_O_deliverLeftOver : Cond.code y_O_deliverLeftOver c_O_deliverLeftOver 7 none ∈ pv_T := pv_in 292 rfl rfl
set_option maxRecDepth 100000 in
theorem wm_O_219 : Cond.methodLink R_O 219 Lib.Math.max.name ∈ pv_T := pv_in 293 rfl rfl
set_option maxRecDepth 100000 in
theorem wm_O_225 : Cond.methodLink R_O 225 y_O_deliverTransitional ∈ pv_T := pv_in 294 rfl rfl
set_option maxRecDepth 100000 in
theorem wi_O_deliverTransitional : Cond.instanceMethod y_O_deliverTransitional ∈ pv_T := pv_in 296 rfl rfl
set_option maxRecDepth 100000 in
theorem wc_O_deliverTransitional : Cond.code y_O_deliverTransitional c_O_deliverTransitional 7 none ∈ pv_T := pv_in 297 rfl rfl
set_option maxRecDepth 100000 in
theorem wm_O_102 : Cond.methodLink R_O 102 y_O_passToken ∈ pv_T := pv_in 298 rfl rfl
set_option maxRecDepth 100000 in
theorem wi_O_passToken : Cond.instanceMethod y_O_passToken ∈ pv_T := pv_in 300 rfl rfl
set_option maxRecDepth 100000 in
theorem wc_O_passToken : Cond.code y_O_passToken c_O_passToken 4 none ∈ pv_T := pv_in 301 rfl rfl
set_option maxRecDepth 100000 in
theorem wm_O_197 : Cond.methodLink R_O 197 y_R_memberAfter ∈ pv_T := pv_in 302 rfl rfl
set_option maxRecDepth 100000 in
theorem wm_L_23 : Cond.methodLink R_L 23 y_O_tick ∈ pv_T := pv_in 303 rfl rfl
set_option maxRecDepth 100000 in
theorem wi_O_tick : Cond.instanceMethod y_O_tick ∈ pv_T := pv_in 304 rfl rfl
set_option maxRecDepth 100000 in
theorem we_O_tick : Cond.selects R_O y_O_tick y_O_tick ∈ pv_T := pv_in 305 rfl rfl
set_option maxRecDepth 100000 in
theorem wc_O_tick : Cond.code y_O_tick c_O_tick 3 (some .int) ∈ pv_T := pv_in 306 rfl rfl
set_option maxRecDepth 100000 in
theorem wm_L_27 : Cond.methodLink R_L 27 y_O_crash ∈ pv_T := pv_in 307 rfl rfl
set_option maxRecDepth 100000 in
theorem wi_O_crash : Cond.instanceMethod y_O_crash ∈ pv_T := pv_in 308 rfl rfl
set_option maxRecDepth 100000 in
theorem we_O_crash : Cond.selects R_O y_O_crash y_O_crash ∈ pv_T := pv_in 309 rfl rfl
set_option maxRecDepth 100000 in
theorem wc_O_crash : Cond.code y_O_crash c_O_crash 2 (some .boolean) ∈ pv_T := pv_in 310 rfl rfl
set_option maxRecDepth 100000 in
theorem wm_O_106 : Cond.methodLink R_O 106 y_O_isUpNode ∈ pv_T := pv_in 311 rfl rfl
set_option maxRecDepth 100000 in
theorem wi_O_isUpNode : Cond.instanceMethod y_O_isUpNode ∈ pv_T := pv_in 313 rfl rfl
set_option maxRecDepth 100000 in
theorem wc_O_isUpNode : Cond.code y_O_isUpNode c_O_isUpNode 2 (some .boolean) ∈ pv_T := pv_in 314 rfl rfl
set_option maxRecDepth 100000 in
theorem wm_O_109 : Cond.methodLink R_O 109 y_N_goDown ∈ pv_T := pv_in 315 rfl rfl
set_option maxRecDepth 100000 in
theorem wi_N_goDown : Cond.instanceMethod y_N_goDown ∈ pv_T := pv_in 316 rfl rfl
set_option maxRecDepth 100000 in
theorem we_N_goDown : Cond.selects R_N y_N_goDown y_N_goDown ∈ pv_T := pv_in 317 rfl rfl
set_option maxRecDepth 100000 in
theorem wc_N_goDown : Cond.code y_N_goDown c_N_goDown 1 none ∈ pv_T := pv_in 318 rfl rfl
set_option maxRecDepth 100000 in
theorem wm_L_32 : Cond.methodLink R_L 32 y_O_restart ∈ pv_T := pv_in 319 rfl rfl
set_option maxRecDepth 100000 in
theorem wi_O_restart : Cond.instanceMethod y_O_restart ∈ pv_T := pv_in 320 rfl rfl
set_option maxRecDepth 100000 in
theorem we_O_restart : Cond.selects R_O y_O_restart y_O_restart ∈ pv_T := pv_in 321 rfl rfl
set_option maxRecDepth 100000 in
theorem wc_O_restart : Cond.code y_O_restart c_O_restart 2 (some .boolean) ∈ pv_T := pv_in 322 rfl rfl
set_option maxRecDepth 100000 in
theorem wm_L_36 : Cond.methodLink R_L 36 y_O_place ∈ pv_T := pv_in 323 rfl rfl
set_option maxRecDepth 100000 in
theorem wi_O_place : Cond.instanceMethod y_O_place ∈ pv_T := pv_in 324 rfl rfl
set_option maxRecDepth 100000 in
theorem we_O_place : Cond.selects R_O y_O_place y_O_place ∈ pv_T := pv_in 325 rfl rfl
set_option maxRecDepth 100000 in
theorem wc_O_place : Cond.code y_O_place c_O_place 3 (some .boolean) ∈ pv_T := pv_in 326 rfl rfl
set_option maxRecDepth 100000 in
theorem wm_L_41 : Cond.methodLink R_L 41 y_O_deafen ∈ pv_T := pv_in 327 rfl rfl
set_option maxRecDepth 100000 in
theorem wi_O_deafen : Cond.instanceMethod y_O_deafen ∈ pv_T := pv_in 328 rfl rfl
set_option maxRecDepth 100000 in
theorem we_O_deafen : Cond.selects R_O y_O_deafen y_O_deafen ∈ pv_T := pv_in 329 rfl rfl
set_option maxRecDepth 100000 in
theorem wc_O_deafen : Cond.code y_O_deafen c_O_deafen 3 (some .boolean) ∈ pv_T := pv_in 330 rfl rfl
set_option maxRecDepth 100000 in
theorem wm_L_45 : Cond.methodLink R_L 45 y_O_drop ∈ pv_T := pv_in 331 rfl rfl
set_option maxRecDepth 100000 in
theorem wi_O_drop : Cond.instanceMethod y_O_drop ∈ pv_T := pv_in 332 rfl rfl
set_option maxRecDepth 100000 in
theorem we_O_drop : Cond.selects R_O y_O_drop y_O_drop ∈ pv_T := pv_in 333 rfl rfl
set_option maxRecDepth 100000 in
theorem wc_O_drop : Cond.code y_O_drop c_O_drop 3 (some .boolean) ∈ pv_T := pv_in 334 rfl rfl
set_option maxRecDepth 100000 in
theorem wm_O_115 : Cond.methodLink R_O 115 y_R_isTokenLost ∈ pv_T := pv_in 335 rfl rfl
set_option maxRecDepth 100000 in
theorem wi_R_isTokenLost : Cond.instanceMethod y_R_isTokenLost ∈ pv_T := pv_in 336 rfl rfl
set_option maxRecDepth 100000 in
theorem we_R_isTokenLost : Cond.selects R_R y_R_isTokenLost y_R_isTokenLost ∈ pv_T := pv_in 337 rfl rfl
set_option maxRecDepth 100000 in
theorem wc_R_isTokenLost : Cond.code y_R_isTokenLost c_R_isTokenLost 1 (some .boolean) ∈ pv_T := pv_in 338 rfl rfl
set_option maxRecDepth 100000 in
theorem wm_L_49 : Cond.methodLink R_L 49 y_O_ring ∈ pv_T := pv_in 339 rfl rfl
set_option maxRecDepth 100000 in
theorem wi_O_ring : Cond.instanceMethod y_O_ring ∈ pv_T := pv_in 340 rfl rfl
set_option maxRecDepth 100000 in
theorem we_O_ring : Cond.selects R_O y_O_ring y_O_ring ∈ pv_T := pv_in 341 rfl rfl
set_option maxRecDepth 100000 in
theorem wc_O_ring : Cond.code y_O_ring c_O_ring 3 (some .int) ∈ pv_T := pv_in 342 rfl rfl
set_option maxRecDepth 100000 in
theorem wm_L_53 : Cond.methodLink R_L 53 y_O_members ∈ pv_T := pv_in 343 rfl rfl
set_option maxRecDepth 100000 in
theorem wi_O_members : Cond.instanceMethod y_O_members ∈ pv_T := pv_in 344 rfl rfl
set_option maxRecDepth 100000 in
theorem we_O_members : Cond.selects R_O y_O_members y_O_members ∈ pv_T := pv_in 345 rfl rfl
set_option maxRecDepth 100000 in
theorem wc_O_members : Cond.code y_O_members c_O_members 3 (some .int) ∈ pv_T := pv_in 346 rfl rfl
set_option maxRecDepth 100000 in
theorem wm_L_57 : Cond.methodLink R_L 57 y_O_token ∈ pv_T := pv_in 347 rfl rfl
set_option maxRecDepth 100000 in
theorem wi_O_token : Cond.instanceMethod y_O_token ∈ pv_T := pv_in 348 rfl rfl
set_option maxRecDepth 100000 in
theorem we_O_token : Cond.selects R_O y_O_token y_O_token ∈ pv_T := pv_in 349 rfl rfl
set_option maxRecDepth 100000 in
theorem wc_O_token : Cond.code y_O_token c_O_token 3 (some .int) ∈ pv_T := pv_in 350 rfl rfl
set_option maxRecDepth 100000 in
theorem wm_L_61 : Cond.methodLink R_L 61 y_O_last ∈ pv_T := pv_in 351 rfl rfl
set_option maxRecDepth 100000 in
theorem wi_O_last : Cond.instanceMethod y_O_last ∈ pv_T := pv_in 352 rfl rfl
set_option maxRecDepth 100000 in
theorem we_O_last : Cond.selects R_O y_O_last y_O_last ∈ pv_T := pv_in 353 rfl rfl
set_option maxRecDepth 100000 in
theorem wc_O_last : Cond.code y_O_last c_O_last 3 (some .int) ∈ pv_T := pv_in 354 rfl rfl
set_option maxRecDepth 100000 in
theorem wm_L_65 : Cond.methodLink R_L 65 y_O_requests ∈ pv_T := pv_in 355 rfl rfl
set_option maxRecDepth 100000 in
theorem wi_O_requests : Cond.instanceMethod y_O_requests ∈ pv_T := pv_in 356 rfl rfl
set_option maxRecDepth 100000 in
theorem we_O_requests : Cond.selects R_O y_O_requests y_O_requests ∈ pv_T := pv_in 357 rfl rfl
set_option maxRecDepth 100000 in
theorem wc_O_requests : Cond.code y_O_requests c_O_requests 3 (some .int) ∈ pv_T := pv_in 358 rfl rfl
set_option maxRecDepth 100000 in
theorem wm_O_131 : Cond.methodLink R_O 131 y_J_bitCount ∈ pv_T := pv_in 359 rfl rfl
set_option maxRecDepth 100000 in
theorem ws_J_bitCount : Cond.static y_J_bitCount ∈ pv_T := pv_in 360 rfl rfl
set_option maxRecDepth 100000 in
theorem wc_J_bitCount : Cond.code y_J_bitCount c_J_bitCount 2 (some .int) ∈ pv_T := pv_in 361 rfl rfl
set_option maxRecDepth 100000 in
theorem wk_J_314 : Cond.constantLong R_J 314 (6148914691236517205 : Int64) ∈ pv_T := pv_in 362 rfl rfl
set_option maxRecDepth 100000 in
theorem wk_J_316 : Cond.constantLong R_J 316 (3689348814741910323 : Int64) ∈ pv_T := pv_in 363 rfl rfl
set_option maxRecDepth 100000 in
theorem wk_J_318 : Cond.constantLong R_J 318 (1085102592571150095 : Int64) ∈ pv_T := pv_in 364 rfl rfl
set_option maxRecDepth 100000 in
theorem wm_L_69 : Cond.methodLink R_L 69 y_O_reach ∈ pv_T := pv_in 365 rfl rfl
set_option maxRecDepth 100000 in
theorem wi_O_reach : Cond.instanceMethod y_O_reach ∈ pv_T := pv_in 366 rfl rfl
set_option maxRecDepth 100000 in
theorem we_O_reach : Cond.selects R_O y_O_reach y_O_reach ∈ pv_T := pv_in 367 rfl rfl
set_option maxRecDepth 100000 in
theorem wc_O_reach : Cond.code y_O_reach c_O_reach 3 (some .int) ∈ pv_T := pv_in 368 rfl rfl
set_option maxRecDepth 100000 in
theorem wm_O_137 : Cond.methodLink R_O 137 y_N_heldWithoutGap ∈ pv_T := pv_in 369 rfl rfl
set_option maxRecDepth 100000 in
theorem wm_L_73 : Cond.methodLink R_L 73 y_O_line ∈ pv_T := pv_in 370 rfl rfl
set_option maxRecDepth 100000 in
theorem wi_O_line : Cond.instanceMethod y_O_line ∈ pv_T := pv_in 371 rfl rfl
set_option maxRecDepth 100000 in
theorem we_O_line : Cond.selects R_O y_O_line y_O_line ∈ pv_T := pv_in 372 rfl rfl
set_option maxRecDepth 100000 in
theorem wc_O_line : Cond.code y_O_line c_O_line 3 (some .int) ∈ pv_T := pv_in 373 rfl rfl
set_option maxRecDepth 100000 in
theorem wm_L_77 : Cond.methodLink R_L 77 y_O_waiting ∈ pv_T := pv_in 374 rfl rfl
set_option maxRecDepth 100000 in
theorem wi_O_waiting : Cond.instanceMethod y_O_waiting ∈ pv_T := pv_in 375 rfl rfl
set_option maxRecDepth 100000 in
theorem we_O_waiting : Cond.selects R_O y_O_waiting y_O_waiting ∈ pv_T := pv_in 376 rfl rfl
set_option maxRecDepth 100000 in
theorem wc_O_waiting : Cond.code y_O_waiting c_O_waiting 3 (some .int) ∈ pv_T := pv_in 377 rfl rfl
set_option maxRecDepth 100000 in
theorem wm_L_81 : Cond.methodLink R_L 81 y_O_delivered ∈ pv_T := pv_in 378 rfl rfl
set_option maxRecDepth 100000 in
theorem wi_O_delivered : Cond.instanceMethod y_O_delivered ∈ pv_T := pv_in 379 rfl rfl
set_option maxRecDepth 100000 in
theorem we_O_delivered : Cond.selects R_O y_O_delivered y_O_delivered ∈ pv_T := pv_in 380 rfl rfl
set_option maxRecDepth 100000 in
theorem wc_O_delivered : Cond.code y_O_delivered c_O_delivered 2 (some .int) ∈ pv_T := pv_in 381 rfl rfl
set_option maxRecDepth 100000 in
theorem wm_L_85 : Cond.methodLink R_L 85 y_O_log ∈ pv_T := pv_in 382 rfl rfl
set_option maxRecDepth 100000 in
theorem wi_O_log : Cond.instanceMethod y_O_log ∈ pv_T := pv_in 383 rfl rfl
set_option maxRecDepth 100000 in
theorem we_O_log : Cond.selects R_O y_O_log y_O_log ∈ pv_T := pv_in 384 rfl rfl
set_option maxRecDepth 100000 in
theorem wc_O_log : Cond.code y_O_log c_O_log 4 (some .int) ∈ pv_T := pv_in 385 rfl rfl
set_option maxRecDepth 100000 in
theorem wm_L_90 : Cond.methodLink R_L 90 y_O_stamp ∈ pv_T := pv_in 386 rfl rfl
set_option maxRecDepth 100000 in
theorem wi_O_stamp : Cond.instanceMethod y_O_stamp ∈ pv_T := pv_in 387 rfl rfl
set_option maxRecDepth 100000 in
theorem we_O_stamp : Cond.selects R_O y_O_stamp y_O_stamp ∈ pv_T := pv_in 388 rfl rfl
set_option maxRecDepth 100000 in
theorem wc_O_stamp : Cond.code y_O_stamp c_O_stamp 2 (some .int) ∈ pv_T := pv_in 389 rfl rfl
set_option maxRecDepth 100000 in
theorem wl_L_10 : Cond.classLink R_L 10 R_Y ∈ pv_T := pv_in 390 rfl rfl
set_option maxRecDepth 100000 in
theorem wt_Y : Cond.instantiable R_Y 22 ∈ pv_T := pv_in 391 rfl rfl
set_option maxRecDepth 100000 in
theorem wm_L_12 : Cond.methodLink R_L 12 y_Y_init ∈ pv_T := pv_in 392 rfl rfl
set_option maxRecDepth 100000 in
theorem wi_Y_init : Cond.instanceMethod y_Y_init ∈ pv_T := pv_in 393 rfl rfl
set_option maxRecDepth 100000 in
theorem wc_Y_init : Cond.code y_Y_init c_Y_init 2 none ∈ pv_T := pv_in 394 rfl rfl
set_option maxRecDepth 100000 in
theorem wm_Y_1 : Cond.methodLink R_Y 1 objectInit ∈ pv_T := pv_in 395 rfl rfl
set_option maxRecDepth 100000 in
theorem wf_Y_7 : Cond.fieldLink R_Y 7 "RotatingTokenGroupModel" "up" "[Z" ∈ pv_T := pv_in 396 rfl rfl
set_option maxRecDepth 100000 in
theorem wf_Y_13 : Cond.fieldLink R_Y 13 "RotatingTokenGroupModel" "area" "[I" ∈ pv_T := pv_in 397 rfl rfl
set_option maxRecDepth 100000 in
theorem wf_Y_17 : Cond.fieldLink R_Y 17 "RotatingTokenGroupModel" "ringOf" "[I" ∈ pv_T := pv_in 398 rfl rfl
set_option maxRecDepth 100000 in
theorem wf_Y_20 : Cond.fieldLink R_Y 20 "RotatingTokenGroupModel" "lineOf" "[I" ∈ pv_T := pv_in 399 rfl rfl
set_option maxRecDepth 100000 in
theorem wf_Y_23 : Cond.fieldLink R_Y 23 "RotatingTokenGroupModel" "placeOf" "[I" ∈ pv_T := pv_in 400 rfl rfl
set_option maxRecDepth 100000 in
theorem wf_Y_26 : Cond.fieldLink R_Y 26 "RotatingTokenGroupModel" "deaf" "[I" ∈ pv_T := pv_in 401 rfl rfl
set_option maxRecDepth 100000 in
theorem wf_Y_29 : Cond.fieldLink R_Y 29 "RotatingTokenGroupModel" "timer" "[I" ∈ pv_T := pv_in 402 rfl rfl
set_option maxRecDepth 100000 in
theorem wf_Y_32 : Cond.fieldLink R_Y 32 "RotatingTokenGroupModel" "hold" "[Z" ∈ pv_T := pv_in 403 rfl rfl
set_option maxRecDepth 100000 in
theorem wf_Y_35 : Cond.fieldLink R_Y 35 "RotatingTokenGroupModel" "logs" "[I" ∈ pv_T := pv_in 404 rfl rfl
set_option maxRecDepth 100000 in
theorem wf_Y_38 : Cond.fieldLink R_Y 38 "RotatingTokenGroupModel" "entries" "[I" ∈ pv_T := pv_in 405 rfl rfl
set_option maxRecDepth 100000 in
theorem wf_Y_80 : Cond.fieldLink R_Y 80 "RotatingTokenGroupModel" "messages" "I" ∈ pv_T := pv_in 406 rfl rfl
set_option maxRecDepth 100000 in
theorem wf_Y_41 : Cond.fieldLink R_Y 41 "RotatingTokenGroupModel" "origin" "[I" ∈ pv_T := pv_in 407 rfl rfl
set_option maxRecDepth 100000 in
theorem wf_Y_44 : Cond.fieldLink R_Y 44 "RotatingTokenGroupModel" "isSafe" "[Z" ∈ pv_T := pv_in 408 rfl rfl
set_option maxRecDepth 100000 in
theorem wf_Y_47 : Cond.fieldLink R_Y 47 "RotatingTokenGroupModel" "gone" "[Z" ∈ pv_T := pv_in 409 rfl rfl
set_option maxRecDepth 100000 in
theorem wf_Y_50 : Cond.fieldLink R_Y 50 "RotatingTokenGroupModel" "ringIn" "[I" ∈ pv_T := pv_in 410 rfl rfl
set_option maxRecDepth 100000 in
theorem wf_Y_53 : Cond.fieldLink R_Y 53 "RotatingTokenGroupModel" "number" "[I" ∈ pv_T := pv_in 411 rfl rfl
set_option maxRecDepth 100000 in
theorem wf_Y_72 : Cond.fieldLink R_Y 72 "RotatingTokenGroupModel" "rings" "I" ∈ pv_T := pv_in 412 rfl rfl
set_option maxRecDepth 100000 in
theorem wf_Y_56 : Cond.fieldLink R_Y 56 "RotatingTokenGroupModel" "at" "[I" ∈ pv_T := pv_in 413 rfl rfl
set_option maxRecDepth 100000 in
theorem wf_Y_59 : Cond.fieldLink R_Y 59 "RotatingTokenGroupModel" "latest" "[I" ∈ pv_T := pv_in 414 rfl rfl
set_option maxRecDepth 100000 in
theorem wf_Y_62 : Cond.fieldLink R_Y 62 "RotatingTokenGroupModel" "memberBits" "[I" ∈ pv_T := pv_in 415 rfl rfl
set_option maxRecDepth 100000 in
theorem wf_Y_65 : Cond.fieldLink R_Y 65 "RotatingTokenGroupModel" "marks" "[I" ∈ pv_T := pv_in 416 rfl rfl
set_option maxRecDepth 100000 in
theorem wf_Y_68 : Cond.fieldLink R_Y 68 "RotatingTokenGroupModel" "wanted" "[J" ∈ pv_T := pv_in 417 rfl rfl
set_option maxRecDepth 100000 in
theorem wa_long : Cond.arrayClass Jvm.ClassFile.FieldType.long ∈ pv_T := pv_in 463 rfl rfl
set_option maxRecDepth 100000 in
theorem wm_L_17 : Cond.methodLink R_L 17 y_Y_send ∈ pv_T := pv_in 464 rfl rfl
set_option maxRecDepth 100000 in
theorem wi_Y_send : Cond.instanceMethod y_Y_send ∈ pv_T := pv_in 465 rfl rfl
set_option maxRecDepth 100000 in
theorem we_Y_send : Cond.selects R_Y y_Y_send y_Y_send ∈ pv_T := pv_in 466 rfl rfl
set_option maxRecDepth 100000 in
theorem wc_Y_send : Cond.code y_Y_send c_Y_send 4 (some .int) ∈ pv_T := pv_in 467 rfl rfl
set_option maxRecDepth 100000 in
theorem wm_Y_91 : Cond.methodLink R_Y 91 y_Y_refuse ∈ pv_T := pv_in 468 rfl rfl
set_option maxRecDepth 100000 in
theorem wi_Y_refuse : Cond.instanceMethod y_Y_refuse ∈ pv_T := pv_in 470 rfl rfl
set_option maxRecDepth 100000 in
theorem wc_Y_refuse : Cond.code y_Y_refuse c_Y_refuse 2 (some .int) ∈ pv_T := pv_in 471 rfl rfl
set_option maxRecDepth 100000 in
theorem wm_Y_76 : Cond.methodLink R_Y 76 y_Y_outside ∈ pv_T := pv_in 472 rfl rfl
set_option maxRecDepth 100000 in
theorem ws_Y_outside : Cond.static y_Y_outside ∈ pv_T := pv_in 473 rfl rfl
set_option maxRecDepth 100000 in
theorem wc_Y_outside : Cond.code y_Y_outside c_Y_outside 1 (some .boolean) ∈ pv_T := pv_in 474 rfl rfl
set_option maxRecDepth 100000 in
theorem wm_Y_95 : Cond.methodLink R_Y 95 y_Y_queued ∈ pv_T := pv_in 475 rfl rfl
set_option maxRecDepth 100000 in
theorem wi_Y_queued : Cond.instanceMethod y_Y_queued ∈ pv_T := pv_in 477 rfl rfl
set_option maxRecDepth 100000 in
theorem wc_Y_queued : Cond.code y_Y_queued c_Y_queued 4 (some .int) ∈ pv_T := pv_in 478 rfl rfl
set_option maxRecDepth 100000 in
theorem wm_L_22 : Cond.methodLink R_L 22 y_Y_visit ∈ pv_T := pv_in 479 rfl rfl
set_option maxRecDepth 100000 in
theorem wi_Y_visit : Cond.instanceMethod y_Y_visit ∈ pv_T := pv_in 480 rfl rfl
set_option maxRecDepth 100000 in
theorem we_Y_visit : Cond.selects R_Y y_Y_visit y_Y_visit ∈ pv_T := pv_in 481 rfl rfl
set_option maxRecDepth 100000 in
theorem wc_Y_visit : Cond.code y_Y_visit c_Y_visit 9 (some .int) ∈ pv_T := pv_in 482 rfl rfl
set_option maxRecDepth 100000 in
theorem wm_Y_113 : Cond.methodLink R_Y 113 y_Y_sendAgain ∈ pv_T := pv_in 483 rfl rfl
set_option maxRecDepth 100000 in
theorem wi_Y_sendAgain : Cond.instanceMethod y_Y_sendAgain ∈ pv_T := pv_in 485 rfl rfl
set_option maxRecDepth 100000 in
theorem wc_Y_sendAgain : Cond.code y_Y_sendAgain c_Y_sendAgain 7 (some .int) ∈ pv_T := pv_in 486 rfl rfl
set_option maxRecDepth 100000 in
theorem wm_Y_87 : Cond.methodLink R_Y 87 y_Y_has ∈ pv_T := pv_in 487 rfl rfl
set_option maxRecDepth 100000 in
theorem wi_Y_has : Cond.instanceMethod y_Y_has ∈ pv_T := pv_in 489 rfl rfl
set_option maxRecDepth 100000 in
theorem wc_Y_has : Cond.code y_Y_has c_Y_has 4 (some .boolean) ∈ pv_T := pv_in 490 rfl rfl
set_option maxRecDepth 100000 in
theorem wm_Y_83 : Cond.methodLink R_Y 83 y_Y_message ∈ pv_T := pv_in 491 rfl rfl
set_option maxRecDepth 100000 in
theorem wi_Y_message : Cond.instanceMethod y_Y_message ∈ pv_T := pv_in 493 rfl rfl
set_option maxRecDepth 100000 in
theorem wc_Y_message : Cond.code y_Y_message c_Y_message 4 (some .int) ∈ pv_T := pv_in 494 rfl rfl
set_option maxRecDepth 100000 in
theorem wk_Y_105 : Cond.constantLong R_Y 105 (-1 : Int64) ∈ pv_T := pv_in 495 rfl rfl
set_option maxRecDepth 100000 in
theorem wm_Y_107 : Cond.methodLink R_Y 107 y_Y_broadcast ∈ pv_T := pv_in 496 rfl rfl
set_option maxRecDepth 100000 in
theorem wi_Y_broadcast : Cond.instanceMethod y_Y_broadcast ∈ pv_T := pv_in 498 rfl rfl
set_option maxRecDepth 100000 in
theorem wc_Y_broadcast : Cond.code y_Y_broadcast c_Y_broadcast 4 none ∈ pv_T := pv_in 499 rfl rfl
set_option maxRecDepth 100000 in
theorem wm_Y_98 : Cond.methodLink R_Y 98 y_Y_hears ∈ pv_T := pv_in 500 rfl rfl
set_option maxRecDepth 100000 in
theorem wi_Y_hears : Cond.instanceMethod y_Y_hears ∈ pv_T := pv_in 502 rfl rfl
set_option maxRecDepth 100000 in
theorem wc_Y_hears : Cond.code y_Y_hears c_Y_hears 3 (some .boolean) ∈ pv_T := pv_in 503 rfl rfl
set_option maxRecDepth 100000 in
theorem wm_Y_116 : Cond.methodLink R_Y 116 y_Y_sendNew ∈ pv_T := pv_in 504 rfl rfl
set_option maxRecDepth 100000 in
theorem wi_Y_sendNew : Cond.instanceMethod y_Y_sendNew ∈ pv_T := pv_in 506 rfl rfl
set_option maxRecDepth 100000 in
theorem wc_Y_sendNew : Cond.code y_Y_sendNew c_Y_sendNew 6 (some .int) ∈ pv_T := pv_in 507 rfl rfl
set_option maxRecDepth 100000 in
theorem wm_Y_110 : Cond.methodLink R_Y 110 y_Y_first ∈ pv_T := pv_in 508 rfl rfl
set_option maxRecDepth 100000 in
theorem wi_Y_first : Cond.instanceMethod y_Y_first ∈ pv_T := pv_in 510 rfl rfl
set_option maxRecDepth 100000 in
theorem wc_Y_first : Cond.code y_Y_first c_Y_first 3 (some .int) ∈ pv_T := pv_in 511 rfl rfl
set_option maxRecDepth 100000 in
theorem wm_Y_119 : Cond.methodLink R_Y 119 y_Y_reachOf ∈ pv_T := pv_in 512 rfl rfl
set_option maxRecDepth 100000 in
theorem wi_Y_reachOf : Cond.instanceMethod y_Y_reachOf ∈ pv_T := pv_in 514 rfl rfl
set_option maxRecDepth 100000 in
theorem wc_Y_reachOf : Cond.code y_Y_reachOf c_Y_reachOf 3 (some .int) ∈ pv_T := pv_in 515 rfl rfl
set_option maxRecDepth 100000 in
theorem wm_Y_122 : Cond.methodLink R_Y 122 y_Y_deliver ∈ pv_T := pv_in 516 rfl rfl
set_option maxRecDepth 100000 in
theorem wi_Y_deliver : Cond.instanceMethod y_Y_deliver ∈ pv_T := pv_in 518 rfl rfl
set_option maxRecDepth 100000 in
theorem wc_Y_deliver : Cond.code y_Y_deliver c_Y_deliver 6 none ∈ pv_T := pv_in 519 rfl rfl
set_option maxRecDepth 100000 in
theorem wm_Y_101 : Cond.methodLink R_Y 101 y_Y_append ∈ pv_T := pv_in 520 rfl rfl
set_option maxRecDepth 100000 in
theorem wi_Y_append : Cond.instanceMethod y_Y_append ∈ pv_T := pv_in 522 rfl rfl
set_option maxRecDepth 100000 in
theorem wc_Y_append : Cond.code y_Y_append c_Y_append 3 none ∈ pv_T := pv_in 523 rfl rfl
set_option maxRecDepth 100000 in
theorem wm_Y_126 : Cond.methodLink R_Y 126 y_Y_stranger ∈ pv_T := pv_in 524 rfl rfl
set_option maxRecDepth 100000 in
theorem wi_Y_stranger : Cond.instanceMethod y_Y_stranger ∈ pv_T := pv_in 526 rfl rfl
set_option maxRecDepth 100000 in
theorem wc_Y_stranger : Cond.code y_Y_stranger c_Y_stranger 4 (some .boolean) ∈ pv_T := pv_in 527 rfl rfl
set_option maxRecDepth 100000 in
theorem wm_Y_129 : Cond.methodLink R_Y 129 y_Y_form ∈ pv_T := pv_in 528 rfl rfl
set_option maxRecDepth 100000 in
theorem wi_Y_form : Cond.instanceMethod y_Y_form ∈ pv_T := pv_in 530 rfl rfl
set_option maxRecDepth 100000 in
theorem wc_Y_form : Cond.code y_Y_form c_Y_form 7 none ∈ pv_T := pv_in 531 rfl rfl
set_option maxRecDepth 100000 in
theorem wm_Y_141 : Cond.methodLink R_Y 141 y_Y_together ∈ pv_T := pv_in 532 rfl rfl
set_option maxRecDepth 100000 in
theorem wi_Y_together : Cond.instanceMethod y_Y_together ∈ pv_T := pv_in 534 rfl rfl
set_option maxRecDepth 100000 in
theorem wc_Y_together : Cond.code y_Y_together c_Y_together 5 (some .int) ∈ pv_T := pv_in 535 rfl rfl
set_option maxRecDepth 100000 in
theorem wm_Y_144 : Cond.methodLink R_Y 144 y_Y_share ∈ pv_T := pv_in 536 rfl rfl
set_option maxRecDepth 100000 in
theorem wi_Y_share : Cond.instanceMethod y_Y_share ∈ pv_T := pv_in 538 rfl rfl
set_option maxRecDepth 100000 in
theorem wc_Y_share : Cond.code y_Y_share c_Y_share 6 none ∈ pv_T := pv_in 539 rfl rfl
set_option maxRecDepth 100000 in
theorem wm_Y_138 : Cond.methodLink R_Y 138 y_Y_finish ∈ pv_T := pv_in 540 rfl rfl
set_option maxRecDepth 100000 in
theorem wi_Y_finish : Cond.instanceMethod y_Y_finish ∈ pv_T := pv_in 542 rfl rfl
set_option maxRecDepth 100000 in
theorem wc_Y_finish : Cond.code y_Y_finish c_Y_finish 7 none ∈ pv_T := pv_in 543 rfl rfl
set_option maxRecDepth 100000 in
theorem wm_Y_147 : Cond.methodLink R_Y 147 y_Y_newRing ∈ pv_T := pv_in 544 rfl rfl
set_option maxRecDepth 100000 in
theorem wi_Y_newRing : Cond.instanceMethod y_Y_newRing ∈ pv_T := pv_in 546 rfl rfl
set_option maxRecDepth 100000 in
theorem wc_Y_newRing : Cond.code y_Y_newRing c_Y_newRing 3 none ∈ pv_T := pv_in 547 rfl rfl
set_option maxRecDepth 100000 in
theorem wm_Y_150 : Cond.methodLink R_Y 150 y_Y_enter ∈ pv_T := pv_in 548 rfl rfl
set_option maxRecDepth 100000 in
theorem wi_Y_enter : Cond.instanceMethod y_Y_enter ∈ pv_T := pv_in 550 rfl rfl
set_option maxRecDepth 100000 in
theorem wc_Y_enter : Cond.code y_Y_enter c_Y_enter 3 none ∈ pv_T := pv_in 551 rfl rfl
set_option maxRecDepth 100000 in
theorem wm_Y_135 : Cond.methodLink R_Y 135 y_Y_clean ∈ pv_T := pv_in 552 rfl rfl
set_option maxRecDepth 100000 in
theorem wi_Y_clean : Cond.instanceMethod y_Y_clean ∈ pv_T := pv_in 554 rfl rfl
set_option maxRecDepth 100000 in
theorem wc_Y_clean : Cond.code y_Y_clean c_Y_clean 3 none ∈ pv_T := pv_in 555 rfl rfl
set_option maxRecDepth 100000 in
theorem wm_Y_132 : Cond.methodLink R_Y 132 y_Y_passOn ∈ pv_T := pv_in 556 rfl rfl
set_option maxRecDepth 100000 in
theorem wi_Y_passOn : Cond.instanceMethod y_Y_passOn ∈ pv_T := pv_in 558 rfl rfl
set_option maxRecDepth 100000 in
theorem wc_Y_passOn : Cond.code y_Y_passOn c_Y_passOn 6 none ∈ pv_T := pv_in 559 rfl rfl
set_option maxRecDepth 100000 in
theorem wm_L_26 : Cond.methodLink R_L 26 y_Y_tick ∈ pv_T := pv_in 560 rfl rfl
set_option maxRecDepth 100000 in
theorem wi_Y_tick : Cond.instanceMethod y_Y_tick ∈ pv_T := pv_in 561 rfl rfl
set_option maxRecDepth 100000 in
theorem we_Y_tick : Cond.selects R_Y y_Y_tick y_Y_tick ∈ pv_T := pv_in 562 rfl rfl
set_option maxRecDepth 100000 in
theorem wc_Y_tick : Cond.code y_Y_tick c_Y_tick 3 (some .int) ∈ pv_T := pv_in 563 rfl rfl
set_option maxRecDepth 100000 in
theorem wm_L_31 : Cond.methodLink R_L 31 y_Y_crash ∈ pv_T := pv_in 564 rfl rfl
set_option maxRecDepth 100000 in
theorem wi_Y_crash : Cond.instanceMethod y_Y_crash ∈ pv_T := pv_in 565 rfl rfl
set_option maxRecDepth 100000 in
theorem we_Y_crash : Cond.selects R_Y y_Y_crash y_Y_crash ∈ pv_T := pv_in 566 rfl rfl
set_option maxRecDepth 100000 in
theorem wc_Y_crash : Cond.code y_Y_crash c_Y_crash 4 (some .boolean) ∈ pv_T := pv_in 567 rfl rfl
set_option maxRecDepth 100000 in
theorem wm_L_35 : Cond.methodLink R_L 35 y_Y_restart ∈ pv_T := pv_in 568 rfl rfl
set_option maxRecDepth 100000 in
theorem wi_Y_restart : Cond.instanceMethod y_Y_restart ∈ pv_T := pv_in 569 rfl rfl
set_option maxRecDepth 100000 in
theorem we_Y_restart : Cond.selects R_Y y_Y_restart y_Y_restart ∈ pv_T := pv_in 570 rfl rfl
set_option maxRecDepth 100000 in
theorem wc_Y_restart : Cond.code y_Y_restart c_Y_restart 2 (some .boolean) ∈ pv_T := pv_in 571 rfl rfl
set_option maxRecDepth 100000 in
theorem wm_L_40 : Cond.methodLink R_L 40 y_Y_place ∈ pv_T := pv_in 572 rfl rfl
set_option maxRecDepth 100000 in
theorem wi_Y_place : Cond.instanceMethod y_Y_place ∈ pv_T := pv_in 573 rfl rfl
set_option maxRecDepth 100000 in
theorem we_Y_place : Cond.selects R_Y y_Y_place y_Y_place ∈ pv_T := pv_in 574 rfl rfl
set_option maxRecDepth 100000 in
theorem wc_Y_place : Cond.code y_Y_place c_Y_place 3 (some .boolean) ∈ pv_T := pv_in 575 rfl rfl
set_option maxRecDepth 100000 in
theorem wm_L_44 : Cond.methodLink R_L 44 y_Y_deafen ∈ pv_T := pv_in 576 rfl rfl
set_option maxRecDepth 100000 in
theorem wi_Y_deafen : Cond.instanceMethod y_Y_deafen ∈ pv_T := pv_in 577 rfl rfl
set_option maxRecDepth 100000 in
theorem we_Y_deafen : Cond.selects R_Y y_Y_deafen y_Y_deafen ∈ pv_T := pv_in 578 rfl rfl
set_option maxRecDepth 100000 in
theorem wc_Y_deafen : Cond.code y_Y_deafen c_Y_deafen 3 (some .boolean) ∈ pv_T := pv_in 579 rfl rfl
set_option maxRecDepth 100000 in
theorem wm_L_48 : Cond.methodLink R_L 48 y_Y_drop ∈ pv_T := pv_in 580 rfl rfl
set_option maxRecDepth 100000 in
theorem wi_Y_drop : Cond.instanceMethod y_Y_drop ∈ pv_T := pv_in 581 rfl rfl
set_option maxRecDepth 100000 in
theorem we_Y_drop : Cond.selects R_Y y_Y_drop y_Y_drop ∈ pv_T := pv_in 582 rfl rfl
set_option maxRecDepth 100000 in
theorem wc_Y_drop : Cond.code y_Y_drop c_Y_drop 2 (some .boolean) ∈ pv_T := pv_in 583 rfl rfl
set_option maxRecDepth 100000 in
theorem wm_L_52 : Cond.methodLink R_L 52 y_Y_ring ∈ pv_T := pv_in 584 rfl rfl
set_option maxRecDepth 100000 in
theorem wi_Y_ring : Cond.instanceMethod y_Y_ring ∈ pv_T := pv_in 585 rfl rfl
set_option maxRecDepth 100000 in
theorem we_Y_ring : Cond.selects R_Y y_Y_ring y_Y_ring ∈ pv_T := pv_in 586 rfl rfl
set_option maxRecDepth 100000 in
theorem wc_Y_ring : Cond.code y_Y_ring c_Y_ring 3 (some .int) ∈ pv_T := pv_in 587 rfl rfl
set_option maxRecDepth 100000 in
theorem wm_L_56 : Cond.methodLink R_L 56 y_Y_members ∈ pv_T := pv_in 588 rfl rfl
set_option maxRecDepth 100000 in
theorem wi_Y_members : Cond.instanceMethod y_Y_members ∈ pv_T := pv_in 589 rfl rfl
set_option maxRecDepth 100000 in
theorem we_Y_members : Cond.selects R_Y y_Y_members y_Y_members ∈ pv_T := pv_in 590 rfl rfl
set_option maxRecDepth 100000 in
theorem wc_Y_members : Cond.code y_Y_members c_Y_members 3 (some .int) ∈ pv_T := pv_in 591 rfl rfl
set_option maxRecDepth 100000 in
theorem wm_L_60 : Cond.methodLink R_L 60 y_Y_token ∈ pv_T := pv_in 592 rfl rfl
set_option maxRecDepth 100000 in
theorem wi_Y_token : Cond.instanceMethod y_Y_token ∈ pv_T := pv_in 593 rfl rfl
set_option maxRecDepth 100000 in
theorem we_Y_token : Cond.selects R_Y y_Y_token y_Y_token ∈ pv_T := pv_in 594 rfl rfl
set_option maxRecDepth 100000 in
theorem wc_Y_token : Cond.code y_Y_token c_Y_token 3 (some .int) ∈ pv_T := pv_in 595 rfl rfl
set_option maxRecDepth 100000 in
theorem wm_L_64 : Cond.methodLink R_L 64 y_Y_last ∈ pv_T := pv_in 596 rfl rfl
set_option maxRecDepth 100000 in
theorem wi_Y_last : Cond.instanceMethod y_Y_last ∈ pv_T := pv_in 597 rfl rfl
set_option maxRecDepth 100000 in
theorem we_Y_last : Cond.selects R_Y y_Y_last y_Y_last ∈ pv_T := pv_in 598 rfl rfl
set_option maxRecDepth 100000 in
theorem wc_Y_last : Cond.code y_Y_last c_Y_last 3 (some .int) ∈ pv_T := pv_in 599 rfl rfl
set_option maxRecDepth 100000 in
theorem wm_L_68 : Cond.methodLink R_L 68 y_Y_requests ∈ pv_T := pv_in 600 rfl rfl
set_option maxRecDepth 100000 in
theorem wi_Y_requests : Cond.instanceMethod y_Y_requests ∈ pv_T := pv_in 601 rfl rfl
set_option maxRecDepth 100000 in
theorem we_Y_requests : Cond.selects R_Y y_Y_requests y_Y_requests ∈ pv_T := pv_in 602 rfl rfl
set_option maxRecDepth 100000 in
theorem wc_Y_requests : Cond.code y_Y_requests c_Y_requests 6 (some .int) ∈ pv_T := pv_in 603 rfl rfl
set_option maxRecDepth 100000 in
theorem wm_L_72 : Cond.methodLink R_L 72 y_Y_reach ∈ pv_T := pv_in 604 rfl rfl
set_option maxRecDepth 100000 in
theorem wi_Y_reach : Cond.instanceMethod y_Y_reach ∈ pv_T := pv_in 605 rfl rfl
set_option maxRecDepth 100000 in
theorem we_Y_reach : Cond.selects R_Y y_Y_reach y_Y_reach ∈ pv_T := pv_in 606 rfl rfl
set_option maxRecDepth 100000 in
theorem wc_Y_reach : Cond.code y_Y_reach c_Y_reach 3 (some .int) ∈ pv_T := pv_in 607 rfl rfl
set_option maxRecDepth 100000 in
theorem wm_L_76 : Cond.methodLink R_L 76 y_Y_line ∈ pv_T := pv_in 608 rfl rfl
set_option maxRecDepth 100000 in
theorem wi_Y_line : Cond.instanceMethod y_Y_line ∈ pv_T := pv_in 609 rfl rfl
set_option maxRecDepth 100000 in
theorem we_Y_line : Cond.selects R_Y y_Y_line y_Y_line ∈ pv_T := pv_in 610 rfl rfl
set_option maxRecDepth 100000 in
theorem wc_Y_line : Cond.code y_Y_line c_Y_line 3 (some .int) ∈ pv_T := pv_in 611 rfl rfl
set_option maxRecDepth 100000 in
theorem wm_L_80 : Cond.methodLink R_L 80 y_Y_waiting ∈ pv_T := pv_in 612 rfl rfl
set_option maxRecDepth 100000 in
theorem wi_Y_waiting : Cond.instanceMethod y_Y_waiting ∈ pv_T := pv_in 613 rfl rfl
set_option maxRecDepth 100000 in
theorem we_Y_waiting : Cond.selects R_Y y_Y_waiting y_Y_waiting ∈ pv_T := pv_in 614 rfl rfl
set_option maxRecDepth 100000 in
theorem wc_Y_waiting : Cond.code y_Y_waiting c_Y_waiting 3 (some .int) ∈ pv_T := pv_in 615 rfl rfl
set_option maxRecDepth 100000 in
theorem wm_L_84 : Cond.methodLink R_L 84 y_Y_delivered ∈ pv_T := pv_in 616 rfl rfl
set_option maxRecDepth 100000 in
theorem wi_Y_delivered : Cond.instanceMethod y_Y_delivered ∈ pv_T := pv_in 617 rfl rfl
set_option maxRecDepth 100000 in
theorem we_Y_delivered : Cond.selects R_Y y_Y_delivered y_Y_delivered ∈ pv_T := pv_in 618 rfl rfl
set_option maxRecDepth 100000 in
theorem wc_Y_delivered : Cond.code y_Y_delivered c_Y_delivered 2 (some .int) ∈ pv_T := pv_in 619 rfl rfl
set_option maxRecDepth 100000 in
theorem wm_L_89 : Cond.methodLink R_L 89 y_Y_log ∈ pv_T := pv_in 620 rfl rfl
set_option maxRecDepth 100000 in
theorem wi_Y_log : Cond.instanceMethod y_Y_log ∈ pv_T := pv_in 621 rfl rfl
set_option maxRecDepth 100000 in
theorem we_Y_log : Cond.selects R_Y y_Y_log y_Y_log ∈ pv_T := pv_in 622 rfl rfl
set_option maxRecDepth 100000 in
theorem wc_Y_log : Cond.code y_Y_log c_Y_log 3 (some .int) ∈ pv_T := pv_in 623 rfl rfl
set_option maxRecDepth 100000 in
theorem wm_L_93 : Cond.methodLink R_L 93 y_Y_stamp ∈ pv_T := pv_in 624 rfl rfl
set_option maxRecDepth 100000 in
theorem wi_Y_stamp : Cond.instanceMethod y_Y_stamp ∈ pv_T := pv_in 625 rfl rfl
set_option maxRecDepth 100000 in
theorem we_Y_stamp : Cond.selects R_Y y_Y_stamp y_Y_stamp ∈ pv_T := pv_in 626 rfl rfl
set_option maxRecDepth 100000 in
theorem wc_Y_stamp : Cond.code y_Y_stamp c_Y_stamp 2 (some .int) ∈ pv_T := pv_in 627 rfl rfl
theorem we_O_enterNewRing : Cond.selects R_O y_O_enterNewRing y_O_enterNewRing ∈ pv_T := pv_inS 0 rfl rfl
theorem we_O_unusedRing : Cond.selects R_O y_O_unusedRing y_O_unusedRing ∈ pv_T := pv_inS 1 rfl rfl
theorem we_O_nodesOf : Cond.selects R_O y_O_nodesOf y_O_nodesOf ∈ pv_T := pv_inS 2 rfl rfl
theorem we_O_broadcastRequests : Cond.selects R_O y_O_broadcastRequests y_O_broadcastRequests ∈ pv_T := pv_inS 3 rfl rfl
theorem we_O_broadcast : Cond.selects R_O y_O_broadcast y_O_broadcast ∈ pv_T := pv_inS 4 rfl rfl
theorem we_O_broadcastNew : Cond.selects R_O y_O_broadcastNew y_O_broadcastNew ∈ pv_T := pv_inS 5 rfl rfl
theorem we_O_deliverInRing : Cond.selects R_O y_O_deliverInRing y_O_deliverInRing ∈ pv_T := pv_inS 6 rfl rfl
theorem we_O_deliverRegular : Cond.selects R_O y_O_deliverRegular y_O_deliverRegular ∈ pv_T := pv_inS 7 rfl rfl
theorem we_O_isDeliverable : Cond.selects R_O y_O_isDeliverable y_O_isDeliverable ∈ pv_T := pv_inS 8 rfl rfl
theorem we_O_hasStranger : Cond.selects R_O y_O_hasStranger y_O_hasStranger ∈ pv_T := pv_inS 9 rfl rfl
theorem we_O_formAnew : Cond.selects R_O y_O_formAnew y_O_formAnew ∈ pv_T := pv_inS 10 rfl rfl
theorem we_O_upNodesIn : Cond.selects R_O y_O_upNodesIn y_O_upNodesIn ∈ pv_T := pv_inS 11 rfl rfl
theorem we_O_deliverLeftOver : Cond.selects R_O y_O_deliverLeftOver y_O_deliverLeftOver ∈ pv_T := pv_inS 12 rfl rfl
theorem we_O_deliverTransitional : Cond.selects R_O y_O_deliverTransitional y_O_deliverTransitional ∈ pv_T := pv_inS 13 rfl rfl
theorem we_O_passToken : Cond.selects R_O y_O_passToken y_O_passToken ∈ pv_T := pv_inS 14 rfl rfl
theorem we_O_isUpNode : Cond.selects R_O y_O_isUpNode y_O_isUpNode ∈ pv_T := pv_inS 15 rfl rfl
theorem we_Y_refuse : Cond.selects R_Y y_Y_refuse y_Y_refuse ∈ pv_T := pv_inS 16 rfl rfl
theorem we_Y_queued : Cond.selects R_Y y_Y_queued y_Y_queued ∈ pv_T := pv_inS 17 rfl rfl
theorem we_Y_sendAgain : Cond.selects R_Y y_Y_sendAgain y_Y_sendAgain ∈ pv_T := pv_inS 18 rfl rfl
theorem we_Y_has : Cond.selects R_Y y_Y_has y_Y_has ∈ pv_T := pv_inS 19 rfl rfl
theorem we_Y_message : Cond.selects R_Y y_Y_message y_Y_message ∈ pv_T := pv_inS 20 rfl rfl
theorem we_Y_broadcast : Cond.selects R_Y y_Y_broadcast y_Y_broadcast ∈ pv_T := pv_inS 21 rfl rfl
theorem we_Y_hears : Cond.selects R_Y y_Y_hears y_Y_hears ∈ pv_T := pv_inS 22 rfl rfl
theorem we_Y_sendNew : Cond.selects R_Y y_Y_sendNew y_Y_sendNew ∈ pv_T := pv_inS 23 rfl rfl
theorem we_Y_first : Cond.selects R_Y y_Y_first y_Y_first ∈ pv_T := pv_inS 24 rfl rfl
theorem we_Y_reachOf : Cond.selects R_Y y_Y_reachOf y_Y_reachOf ∈ pv_T := pv_inS 25 rfl rfl
theorem we_Y_deliver : Cond.selects R_Y y_Y_deliver y_Y_deliver ∈ pv_T := pv_inS 26 rfl rfl
theorem we_Y_append : Cond.selects R_Y y_Y_append y_Y_append ∈ pv_T := pv_inS 27 rfl rfl
theorem we_Y_stranger : Cond.selects R_Y y_Y_stranger y_Y_stranger ∈ pv_T := pv_inS 28 rfl rfl
theorem we_Y_form : Cond.selects R_Y y_Y_form y_Y_form ∈ pv_T := pv_inS 29 rfl rfl
theorem we_Y_together : Cond.selects R_Y y_Y_together y_Y_together ∈ pv_T := pv_inS 30 rfl rfl
theorem we_Y_share : Cond.selects R_Y y_Y_share y_Y_share ∈ pv_T := pv_inS 31 rfl rfl
theorem we_Y_finish : Cond.selects R_Y y_Y_finish y_Y_finish ∈ pv_T := pv_inS 32 rfl rfl
theorem we_Y_newRing : Cond.selects R_Y y_Y_newRing y_Y_newRing ∈ pv_T := pv_inS 33 rfl rfl
theorem we_Y_enter : Cond.selects R_Y y_Y_enter y_Y_enter ∈ pv_T := pv_inS 34 rfl rfl
theorem we_Y_clean : Cond.selects R_Y y_Y_clean y_Y_clean ∈ pv_T := pv_inS 35 rfl rfl
theorem we_Y_passOn : Cond.selects R_Y y_Y_passOn y_Y_passOn ∈ pv_T := pv_inS 36 rfl rfl
set_option maxRecDepth 100000 in
theorem lay_M : ∀ w ∈ u_ws R_M T_M 4, w ∈ pv_T := by
  intro w h
  obtain ⟨k, hk, rfl⟩ := List.mem_map.mp h
  have hk := List.mem_range.mp hk
  rcases (show k = 0 ∨ k = 1 ∨ k = 2 ∨ k = 3 by omega) with rfl | rfl | rfl | rfl
  · exact pv_in 122 rfl rfl
  · exact pv_in 124 rfl rfl
  · exact pv_in 126 rfl rfl
  · exact pv_in 128 rfl rfl
set_option maxRecDepth 100000 in
theorem lay_N : ∀ w ∈ u_ws R_N T_N 12, w ∈ pv_T := by
  intro w h
  obtain ⟨k, hk, rfl⟩ := List.mem_map.mp h
  have hk := List.mem_range.mp hk
  rcases (show k = 0 ∨ k = 1 ∨ k = 2 ∨ k = 3 ∨ k = 4 ∨ k = 5 ∨ k = 6 ∨ k = 7 ∨ k = 8 ∨ k = 9 ∨ k = 10 ∨ k = 11 by omega) with rfl | rfl | rfl | rfl | rfl | rfl | rfl | rfl | rfl | rfl | rfl | rfl
  · exact pv_in 46 rfl rfl
  · exact pv_in 48 rfl rfl
  · exact pv_in 50 rfl rfl
  · exact pv_in 52 rfl rfl
  · exact pv_in 54 rfl rfl
  · exact pv_in 56 rfl rfl
  · exact pv_in 58 rfl rfl
  · exact pv_in 60 rfl rfl
  · exact pv_in 62 rfl rfl
  · exact pv_in 64 rfl rfl
  · exact pv_in 66 rfl rfl
  · exact pv_in 68 rfl rfl
set_option maxRecDepth 100000 in
theorem lay_R : ∀ w ∈ u_ws R_R T_R 7, w ∈ pv_T := by
  intro w h
  obtain ⟨k, hk, rfl⟩ := List.mem_map.mp h
  have hk := List.mem_range.mp hk
  rcases (show k = 0 ∨ k = 1 ∨ k = 2 ∨ k = 3 ∨ k = 4 ∨ k = 5 ∨ k = 6 by omega) with rfl | rfl | rfl | rfl | rfl | rfl | rfl
  · exact pv_in 93 rfl rfl
  · exact pv_in 95 rfl rfl
  · exact pv_in 97 rfl rfl
  · exact pv_in 99 rfl rfl
  · exact pv_in 101 rfl rfl
  · exact pv_in 103 rfl rfl
  · exact pv_in 105 rfl rfl
set_option maxRecDepth 100000 in
theorem lay_O : ∀ w ∈ u_ws R_O T_O 4, w ∈ pv_T := by
  intro w h
  obtain ⟨k, hk, rfl⟩ := List.mem_map.mp h
  have hk := List.mem_range.mp hk
  rcases (show k = 0 ∨ k = 1 ∨ k = 2 ∨ k = 3 by omega) with rfl | rfl | rfl | rfl
  · exact pv_in 168 rfl rfl
  · exact pv_in 170 rfl rfl
  · exact pv_in 172 rfl rfl
  · exact pv_in 174 rfl rfl
set_option maxRecDepth 100000 in
theorem lay_Y : ∀ w ∈ u_ws R_Y T_Y 22, w ∈ pv_T := by
  intro w h
  obtain ⟨k, hk, rfl⟩ := List.mem_map.mp h
  have hk := List.mem_range.mp hk
  rcases (show k = 0 ∨ k = 1 ∨ k = 2 ∨ k = 3 ∨ k = 4 ∨ k = 5 ∨ k = 6 ∨ k = 7 ∨ k = 8 ∨ k = 9 ∨ k = 10 ∨ k = 11 ∨ k = 12 ∨ k = 13 ∨ k = 14 ∨ k = 15 ∨ k = 16 ∨ k = 17 ∨ k = 18 ∨ k = 19 ∨ k = 20 ∨ k = 21 by omega) with rfl | rfl | rfl | rfl | rfl | rfl | rfl | rfl | rfl | rfl | rfl | rfl | rfl | rfl | rfl | rfl | rfl | rfl | rfl | rfl | rfl | rfl
  · exact pv_in 418 rfl rfl
  · exact pv_in 420 rfl rfl
  · exact pv_in 422 rfl rfl
  · exact pv_in 424 rfl rfl
  · exact pv_in 426 rfl rfl
  · exact pv_in 428 rfl rfl
  · exact pv_in 430 rfl rfl
  · exact pv_in 432 rfl rfl
  · exact pv_in 434 rfl rfl
  · exact pv_in 436 rfl rfl
  · exact pv_in 438 rfl rfl
  · exact pv_in 440 rfl rfl
  · exact pv_in 442 rfl rfl
  · exact pv_in 444 rfl rfl
  · exact pv_in 446 rfl rfl
  · exact pv_in 448 rfl rfl
  · exact pv_in 450 rfl rfl
  · exact pv_in 452 rfl rfl
  · exact pv_in 454 rfl rfl
  · exact pv_in 456 rfl rfl
  · exact pv_in 458 rfl rfl
  · exact pv_in 460 rfl rfl
/-- the array classes: ints, booleans, longs, nodes, rings -/
def pv_tys (ty : Nat → ClassId) : List (ClassId × FieldType) := [(ty 0, .int), (ty 1, .boolean), (ty 2, .long), (ty 3, .object pv_RN), (ty 4, .object pv_RR)]
def pv_N : List (String × Nat × MethodName × String) := [(R_R, 52, y_O_isIn, R_O)]
def pv_K (D : va_G) (ty : Nat → ClassId) (s : State) : Prop := va_K D pv_cl (pv_tys ty) s ∧ va_AO pv_RN s ∧ va_AO pv_RR s ∧ ∀ q ∈ pv_N, va_Nw (.methodLinkNest q.1 q.2.1 q.2.2.1 q.2.2.2) s
def pv_p (x : Option Nat) : Value := match x with
  | none => .null
  | some k => .ref (k + 1)
theorem pv_p_inj {base : Nat} {x y : Option Nat} (h : x.map (fun k => base + k) = y.map (fun k => base + k)) : x = y := by
  cases x <;> cases y <;> simp at h <;> simp [h]
def pv_F (own : String) (idx ci kf : Nat) : Prop := ∃ (C : String) (T : u_T) (N : Nat), pv_cl[ci]? = some (C, T, N) ∧ kf < N ∧ (∀ w ∈ u_ws C T N, w ∈ pv_T) ∧ Cond.fieldLink own idx (T kf).1 (T kf).2.1 (T kf).2.2.1 ∈ pv_T ∧ True
def pv_FP (ci kf : Nat) (fty : FieldType) (fin : Bool) : Prop := ∃ (C : String) (T : u_T) (N : Nat) (ty0 : Nat → FieldType), pv_cl[ci]? = some (C, T, N) ∧ (∀ k, k < N → parseFieldDescriptor (T k).2.2.1 = some (ty0 k)) ∧ (∀ a, a < N → ∀ b, b < N → a ≠ b → (T a).2.1 ≠ (T b).2.1) ∧ (T kf).2.2.2 = fin ∧ parseFieldDescriptor (T kf).2.2.1 = some fty
def pv_own (own : String) (ci kf : Nat) : Prop := ∃ (C : String) (T : u_T) (N : Nat), pv_cl[ci]? = some (C, T, N) ∧ (T kf).1 = own
theorem ff_N_9 : pv_F R_N 9 1 0 := ⟨R_N, T_N, 12, rfl, by decide, lay_N, wf_N_9, trivial⟩
theorem ff_R_41 : pv_F R_R 41 1 0 := ⟨R_N, T_N, 12, rfl, by decide, lay_N, wf_R_41, trivial⟩
theorem ff_O_196 : pv_F R_O 196 1 0 := ⟨R_N, T_N, 12, rfl, by decide, lay_N, wf_O_196, trivial⟩
theorem ff_N_15 : pv_F R_N 15 1 1 := ⟨R_N, T_N, 12, rfl, by decide, lay_N, wf_N_15, trivial⟩
theorem ff_N_19 : pv_F R_N 19 1 2 := ⟨R_N, T_N, 12, rfl, by decide, lay_N, wf_N_19, trivial⟩
theorem ff_O_143 : pv_F R_O 143 1 2 := ⟨R_N, T_N, 12, rfl, by decide, lay_N, wf_O_143, trivial⟩
theorem ff_N_22 : pv_F R_N 22 1 3 := ⟨R_N, T_N, 12, rfl, by decide, lay_N, wf_N_22, trivial⟩
theorem ff_O_60 : pv_F R_O 60 1 3 := ⟨R_N, T_N, 12, rfl, by decide, lay_N, wf_O_60, trivial⟩
theorem ff_N_26 : pv_F R_N 26 1 4 := ⟨R_N, T_N, 12, rfl, by decide, lay_N, wf_N_26, trivial⟩
theorem ff_O_216 : pv_F R_O 216 1 4 := ⟨R_N, T_N, 12, rfl, by decide, lay_N, wf_O_216, trivial⟩
theorem ff_O_50 : pv_F R_O 50 1 5 := ⟨R_N, T_N, 12, rfl, by decide, lay_N, wf_O_50, trivial⟩
theorem ff_N_41 : pv_F R_N 41 1 5 := ⟨R_N, T_N, 12, rfl, by decide, lay_N, wf_N_41, trivial⟩
theorem ff_N_50 : pv_F R_N 50 1 6 := ⟨R_N, T_N, 12, rfl, by decide, lay_N, wf_N_50, trivial⟩
theorem ff_O_140 : pv_F R_O 140 1 6 := ⟨R_N, T_N, 12, rfl, by decide, lay_N, wf_O_140, trivial⟩
theorem ff_O_96 : pv_F R_O 96 1 7 := ⟨R_N, T_N, 12, rfl, by decide, lay_N, wf_O_96, trivial⟩
theorem ff_O_82 : pv_F R_O 82 1 8 := ⟨R_N, T_N, 12, rfl, by decide, lay_N, wf_O_82, trivial⟩
theorem ff_N_61 : pv_F R_N 61 1 8 := ⟨R_N, T_N, 12, rfl, by decide, lay_N, wf_N_61, trivial⟩
theorem ff_N_64 : pv_F R_N 64 1 9 := ⟨R_N, T_N, 12, rfl, by decide, lay_N, wf_N_64, trivial⟩
theorem ff_O_182 : pv_F R_O 182 1 9 := ⟨R_N, T_N, 12, rfl, by decide, lay_N, wf_O_182, trivial⟩
theorem ff_N_30 : pv_F R_N 30 1 10 := ⟨R_N, T_N, 12, rfl, by decide, lay_N, wf_N_30, trivial⟩
theorem ff_O_112 : pv_F R_O 112 1 10 := ⟨R_N, T_N, 12, rfl, by decide, lay_N, wf_O_112, trivial⟩
theorem ff_O_89 : pv_F R_O 89 1 11 := ⟨R_N, T_N, 12, rfl, by decide, lay_N, wf_O_89, trivial⟩
theorem ff_N_67 : pv_F R_N 67 1 11 := ⟨R_N, T_N, 12, rfl, by decide, lay_N, wf_N_67, trivial⟩
theorem ff_R_9 : pv_F R_R 9 2 0 := ⟨R_R, T_R, 7, rfl, by decide, lay_R, wf_R_9, trivial⟩
theorem ff_O_166 : pv_F R_O 166 2 0 := ⟨R_R, T_R, 7, rfl, by decide, lay_R, wf_O_166, trivial⟩
theorem ff_R_15 : pv_F R_R 15 2 1 := ⟨R_R, T_R, 7, rfl, by decide, lay_R, wf_R_15, trivial⟩
theorem ff_R_22 : pv_F R_R 22 2 2 := ⟨R_R, T_R, 7, rfl, by decide, lay_R, wf_R_22, trivial⟩
theorem ff_O_118 : pv_F R_O 118 2 2 := ⟨R_R, T_R, 7, rfl, by decide, lay_R, wf_O_118, trivial⟩
theorem ff_R_25 : pv_F R_R 25 2 3 := ⟨R_R, T_R, 7, rfl, by decide, lay_R, wf_R_25, trivial⟩
theorem ff_O_121 : pv_F R_O 121 2 3 := ⟨R_R, T_R, 7, rfl, by decide, lay_R, wf_O_121, trivial⟩
theorem ff_R_18 : pv_F R_R 18 2 4 := ⟨R_R, T_R, 7, rfl, by decide, lay_R, wf_R_18, trivial⟩
theorem ff_O_64 : pv_F R_O 64 2 4 := ⟨R_R, T_R, 7, rfl, by decide, lay_R, wf_O_64, trivial⟩
theorem ff_N_56 : pv_F R_N 56 2 4 := ⟨R_R, T_R, 7, rfl, by decide, lay_R, wf_N_56, trivial⟩
theorem ff_R_32 : pv_F R_R 32 2 5 := ⟨R_R, T_R, 7, rfl, by decide, lay_R, wf_R_32, trivial⟩
theorem ff_O_124 : pv_F R_O 124 2 5 := ⟨R_R, T_R, 7, rfl, by decide, lay_R, wf_O_124, trivial⟩
theorem ff_R_35 : pv_F R_R 35 2 6 := ⟨R_R, T_R, 7, rfl, by decide, lay_R, wf_R_35, trivial⟩
theorem ff_O_127 : pv_F R_O 127 2 6 := ⟨R_R, T_R, 7, rfl, by decide, lay_R, wf_O_127, trivial⟩
theorem ff_M_9 : pv_F R_M 9 0 0 := ⟨R_M, T_M, 4, rfl, by decide, lay_M, wf_M_9, trivial⟩
theorem ff_O_229 : pv_F R_O 229 0 0 := ⟨R_M, T_M, 4, rfl, by decide, lay_M, wf_O_229, trivial⟩
theorem ff_M_15 : pv_F R_M 15 0 1 := ⟨R_M, T_M, 4, rfl, by decide, lay_M, wf_M_15, trivial⟩
theorem ff_O_192 : pv_F R_O 192 0 1 := ⟨R_M, T_M, 4, rfl, by decide, lay_M, wf_O_192, trivial⟩
theorem ff_M_19 : pv_F R_M 19 0 2 := ⟨R_M, T_M, 4, rfl, by decide, lay_M, wf_M_19, trivial⟩
theorem ff_O_147 : pv_F R_O 147 0 2 := ⟨R_M, T_M, 4, rfl, by decide, lay_M, wf_O_147, trivial⟩
theorem ff_M_22 : pv_F R_M 22 0 3 := ⟨R_M, T_M, 4, rfl, by decide, lay_M, wf_M_22, trivial⟩
theorem ff_O_47 : pv_F R_O 47 0 3 := ⟨R_M, T_M, 4, rfl, by decide, lay_M, wf_O_47, trivial⟩
theorem ff_O_11 : pv_F R_O 11 3 0 := ⟨R_O, T_O, 4, rfl, by decide, lay_O, wf_O_11, trivial⟩
theorem ff_O_20 : pv_F R_O 20 3 1 := ⟨R_O, T_O, 4, rfl, by decide, lay_O, wf_O_20, trivial⟩
theorem ff_O_28 : pv_F R_O 28 3 2 := ⟨R_O, T_O, 4, rfl, by decide, lay_O, wf_O_28, trivial⟩
theorem ff_O_32 : pv_F R_O 32 3 3 := ⟨R_O, T_O, 4, rfl, by decide, lay_O, wf_O_32, trivial⟩
theorem ff_Y_7 : pv_F R_Y 7 4 0 := ⟨R_Y, T_Y, 22, rfl, by decide, lay_Y, wf_Y_7, trivial⟩
theorem ff_Y_13 : pv_F R_Y 13 4 1 := ⟨R_Y, T_Y, 22, rfl, by decide, lay_Y, wf_Y_13, trivial⟩
theorem ff_Y_17 : pv_F R_Y 17 4 2 := ⟨R_Y, T_Y, 22, rfl, by decide, lay_Y, wf_Y_17, trivial⟩
theorem ff_Y_20 : pv_F R_Y 20 4 3 := ⟨R_Y, T_Y, 22, rfl, by decide, lay_Y, wf_Y_20, trivial⟩
theorem ff_Y_23 : pv_F R_Y 23 4 4 := ⟨R_Y, T_Y, 22, rfl, by decide, lay_Y, wf_Y_23, trivial⟩
theorem ff_Y_26 : pv_F R_Y 26 4 5 := ⟨R_Y, T_Y, 22, rfl, by decide, lay_Y, wf_Y_26, trivial⟩
theorem ff_Y_29 : pv_F R_Y 29 4 6 := ⟨R_Y, T_Y, 22, rfl, by decide, lay_Y, wf_Y_29, trivial⟩
theorem ff_Y_32 : pv_F R_Y 32 4 7 := ⟨R_Y, T_Y, 22, rfl, by decide, lay_Y, wf_Y_32, trivial⟩
theorem ff_Y_35 : pv_F R_Y 35 4 8 := ⟨R_Y, T_Y, 22, rfl, by decide, lay_Y, wf_Y_35, trivial⟩
theorem ff_Y_38 : pv_F R_Y 38 4 9 := ⟨R_Y, T_Y, 22, rfl, by decide, lay_Y, wf_Y_38, trivial⟩
theorem ff_Y_80 : pv_F R_Y 80 4 10 := ⟨R_Y, T_Y, 22, rfl, by decide, lay_Y, wf_Y_80, trivial⟩
theorem ff_Y_41 : pv_F R_Y 41 4 11 := ⟨R_Y, T_Y, 22, rfl, by decide, lay_Y, wf_Y_41, trivial⟩
theorem ff_Y_44 : pv_F R_Y 44 4 12 := ⟨R_Y, T_Y, 22, rfl, by decide, lay_Y, wf_Y_44, trivial⟩
theorem ff_Y_47 : pv_F R_Y 47 4 13 := ⟨R_Y, T_Y, 22, rfl, by decide, lay_Y, wf_Y_47, trivial⟩
theorem ff_Y_50 : pv_F R_Y 50 4 14 := ⟨R_Y, T_Y, 22, rfl, by decide, lay_Y, wf_Y_50, trivial⟩
theorem ff_Y_53 : pv_F R_Y 53 4 15 := ⟨R_Y, T_Y, 22, rfl, by decide, lay_Y, wf_Y_53, trivial⟩
theorem ff_Y_72 : pv_F R_Y 72 4 16 := ⟨R_Y, T_Y, 22, rfl, by decide, lay_Y, wf_Y_72, trivial⟩
theorem ff_Y_56 : pv_F R_Y 56 4 17 := ⟨R_Y, T_Y, 22, rfl, by decide, lay_Y, wf_Y_56, trivial⟩
theorem ff_Y_59 : pv_F R_Y 59 4 18 := ⟨R_Y, T_Y, 22, rfl, by decide, lay_Y, wf_Y_59, trivial⟩
theorem ff_Y_62 : pv_F R_Y 62 4 19 := ⟨R_Y, T_Y, 22, rfl, by decide, lay_Y, wf_Y_62, trivial⟩
theorem ff_Y_65 : pv_F R_Y 65 4 20 := ⟨R_Y, T_Y, 22, rfl, by decide, lay_Y, wf_Y_65, trivial⟩
theorem ff_Y_68 : pv_F R_Y 68 4 21 := ⟨R_Y, T_Y, 22, rfl, by decide, lay_Y, wf_Y_68, trivial⟩
theorem fp_M_origins : pv_FP 0 0 (.array (.int)) true := ⟨R_M, T_M, 4, ty_M, rfl, ty_M_ok, nm_M, rfl, by decide +kernel⟩
theorem fo_M_origins : pv_own R_M 0 0 := ⟨R_M, T_M, 4, rfl, rfl⟩
theorem fp_M_safe : pv_FP 0 1 (.array (.boolean)) true := ⟨R_M, T_M, 4, ty_M, rfl, ty_M_ok, nm_M, rfl, by decide +kernel⟩
theorem fo_M_safe : pv_own R_M 0 1 := ⟨R_M, T_M, 4, rfl, rfl⟩
theorem fp_M_stamps : pv_FP 0 2 (.array (.int)) true := ⟨R_M, T_M, 4, ty_M, rfl, ty_M_ok, nm_M, rfl, by decide +kernel⟩
theorem fo_M_stamps : pv_own R_M 0 2 := ⟨R_M, T_M, 4, rfl, rfl⟩
theorem fp_M_taken : pv_FP 0 3 (.int) false := ⟨R_M, T_M, 4, ty_M, rfl, ty_M_ok, nm_M, rfl, by decide +kernel⟩
theorem fp_N_number : pv_FP 1 0 (.int) true := ⟨R_N, T_N, 12, ty_N, rfl, ty_N_ok, nm_N, rfl, by decide +kernel⟩
theorem fo_N_number : pv_own R_N 1 0 := ⟨R_N, T_N, 12, rfl, rfl⟩
theorem fp_N_queue : pv_FP 1 1 (.array (.int)) true := ⟨R_N, T_N, 12, ty_N, rfl, ty_N_ok, nm_N, rfl, by decide +kernel⟩
theorem fo_N_queue : pv_own R_N 1 1 := ⟨R_N, T_N, 12, rfl, rfl⟩
theorem fp_N_entries : pv_FP 1 2 (.array (.int)) true := ⟨R_N, T_N, 12, ty_N, rfl, ty_N_ok, nm_N, rfl, by decide +kernel⟩
theorem fo_N_entries : pv_own R_N 1 2 := ⟨R_N, T_N, 12, rfl, rfl⟩
theorem fp_N_ring : pv_FP 1 3 (.object "RotatingTokenGroup$Ring") false := ⟨R_N, T_N, 12, ty_N, rfl, ty_N_ok, nm_N, rfl, by decide +kernel⟩
theorem fp_N_held : pv_FP 1 4 (.long) false := ⟨R_N, T_N, 12, ty_N, rfl, ty_N_ok, nm_N, rfl, by decide +kernel⟩
theorem fp_N_queued : pv_FP 1 5 (.int) false := ⟨R_N, T_N, 12, ty_N, rfl, ty_N_ok, nm_N, rfl, by decide +kernel⟩
theorem fp_N_logged : pv_FP 1 6 (.int) false := ⟨R_N, T_N, 12, ty_N, rfl, ty_N_ok, nm_N, rfl, by decide +kernel⟩
theorem fp_N_area : pv_FP 1 7 (.int) false := ⟨R_N, T_N, 12, ty_N, rfl, ty_N_ok, nm_N, rfl, by decide +kernel⟩
theorem fp_N_line : pv_FP 1 8 (.int) false := ⟨R_N, T_N, 12, ty_N, rfl, ty_N_ok, nm_N, rfl, by decide +kernel⟩
theorem fp_N_place : pv_FP 1 9 (.int) false := ⟨R_N, T_N, 12, ty_N, rfl, ty_N_ok, nm_N, rfl, by decide +kernel⟩
theorem fp_N_deafness : pv_FP 1 10 (.int) false := ⟨R_N, T_N, 12, ty_N, rfl, ty_N_ok, nm_N, rfl, by decide +kernel⟩
theorem fp_N_timer : pv_FP 1 11 (.int) false := ⟨R_N, T_N, 12, ty_N, rfl, ty_N_ok, nm_N, rfl, by decide +kernel⟩
theorem fp_R_messageAt : pv_FP 2 0 (.array (.int)) true := ⟨R_R, T_R, 7, ty_R, rfl, ty_R_ok, nm_R, rfl, by decide +kernel⟩
theorem fo_R_messageAt : pv_own R_R 2 0 := ⟨R_R, T_R, 7, rfl, rfl⟩
theorem fp_R_marks : pv_FP 2 1 (.array (.int)) true := ⟨R_R, T_R, 7, ty_R, rfl, ty_R_ok, nm_R, rfl, by decide +kernel⟩
theorem fo_R_marks : pv_own R_R 2 1 := ⟨R_R, T_R, 7, rfl, rfl⟩
theorem fp_R_number : pv_FP 2 2 (.int) false := ⟨R_R, T_R, 7, ty_R, rfl, ty_R_ok, nm_R, rfl, by decide +kernel⟩
theorem fp_R_members : pv_FP 2 3 (.int) false := ⟨R_R, T_R, 7, ty_R, rfl, ty_R_ok, nm_R, rfl, by decide +kernel⟩
theorem fp_R_tokenAt : pv_FP 2 4 (.int) false := ⟨R_R, T_R, 7, ty_R, rfl, ty_R_ok, nm_R, rfl, by decide +kernel⟩
theorem fp_R_last : pv_FP 2 5 (.int) false := ⟨R_R, T_R, 7, ty_R, rfl, ty_R_ok, nm_R, rfl, by decide +kernel⟩
theorem fp_R_requests : pv_FP 2 6 (.long) false := ⟨R_R, T_R, 7, ty_R, rfl, ty_R_ok, nm_R, rfl, by decide +kernel⟩
theorem fp_O_nodes : pv_FP 3 0 (.array (.object "RotatingTokenGroup$Node")) true := ⟨R_O, T_O, 4, ty_O, rfl, ty_O_ok, nm_O, rfl, by decide +kernel⟩
theorem fo_O_nodes : pv_own R_O 3 0 := ⟨R_O, T_O, 4, rfl, rfl⟩
theorem fp_O_rings : pv_FP 3 1 (.array (.object "RotatingTokenGroup$Ring")) true := ⟨R_O, T_O, 4, ty_O, rfl, ty_O_ok, nm_O, rfl, by decide +kernel⟩
theorem fo_O_rings : pv_own R_O 3 1 := ⟨R_O, T_O, 4, rfl, rfl⟩
theorem fp_O_messages : pv_FP 3 2 (.object "RotatingTokenGroup$Messages") true := ⟨R_O, T_O, 4, ty_O, rfl, ty_O_ok, nm_O, rfl, by decide +kernel⟩
theorem fo_O_messages : pv_own R_O 3 2 := ⟨R_O, T_O, 4, rfl, rfl⟩
theorem fp_O_greatestRing : pv_FP 3 3 (.int) false := ⟨R_O, T_O, 4, ty_O, rfl, ty_O_ok, nm_O, rfl, by decide +kernel⟩
theorem fp_Y_up : pv_FP 4 0 (.array (.boolean)) true := ⟨R_Y, T_Y, 22, ty_Y, rfl, ty_Y_ok, nm_Y, rfl, by decide +kernel⟩
theorem fo_Y_up : pv_own R_Y 4 0 := ⟨R_Y, T_Y, 22, rfl, rfl⟩
theorem fp_Y_area : pv_FP 4 1 (.array (.int)) true := ⟨R_Y, T_Y, 22, ty_Y, rfl, ty_Y_ok, nm_Y, rfl, by decide +kernel⟩
theorem fo_Y_area : pv_own R_Y 4 1 := ⟨R_Y, T_Y, 22, rfl, rfl⟩
theorem fp_Y_ringOf : pv_FP 4 2 (.array (.int)) true := ⟨R_Y, T_Y, 22, ty_Y, rfl, ty_Y_ok, nm_Y, rfl, by decide +kernel⟩
theorem fo_Y_ringOf : pv_own R_Y 4 2 := ⟨R_Y, T_Y, 22, rfl, rfl⟩
theorem fp_Y_lineOf : pv_FP 4 3 (.array (.int)) true := ⟨R_Y, T_Y, 22, ty_Y, rfl, ty_Y_ok, nm_Y, rfl, by decide +kernel⟩
theorem fo_Y_lineOf : pv_own R_Y 4 3 := ⟨R_Y, T_Y, 22, rfl, rfl⟩
theorem fp_Y_placeOf : pv_FP 4 4 (.array (.int)) true := ⟨R_Y, T_Y, 22, ty_Y, rfl, ty_Y_ok, nm_Y, rfl, by decide +kernel⟩
theorem fo_Y_placeOf : pv_own R_Y 4 4 := ⟨R_Y, T_Y, 22, rfl, rfl⟩
theorem fp_Y_deaf : pv_FP 4 5 (.array (.int)) true := ⟨R_Y, T_Y, 22, ty_Y, rfl, ty_Y_ok, nm_Y, rfl, by decide +kernel⟩
theorem fo_Y_deaf : pv_own R_Y 4 5 := ⟨R_Y, T_Y, 22, rfl, rfl⟩
theorem fp_Y_timer : pv_FP 4 6 (.array (.int)) true := ⟨R_Y, T_Y, 22, ty_Y, rfl, ty_Y_ok, nm_Y, rfl, by decide +kernel⟩
theorem fo_Y_timer : pv_own R_Y 4 6 := ⟨R_Y, T_Y, 22, rfl, rfl⟩
theorem fp_Y_hold : pv_FP 4 7 (.array (.boolean)) true := ⟨R_Y, T_Y, 22, ty_Y, rfl, ty_Y_ok, nm_Y, rfl, by decide +kernel⟩
theorem fo_Y_hold : pv_own R_Y 4 7 := ⟨R_Y, T_Y, 22, rfl, rfl⟩
theorem fp_Y_logs : pv_FP 4 8 (.array (.int)) true := ⟨R_Y, T_Y, 22, ty_Y, rfl, ty_Y_ok, nm_Y, rfl, by decide +kernel⟩
theorem fo_Y_logs : pv_own R_Y 4 8 := ⟨R_Y, T_Y, 22, rfl, rfl⟩
theorem fp_Y_entries : pv_FP 4 9 (.array (.int)) true := ⟨R_Y, T_Y, 22, ty_Y, rfl, ty_Y_ok, nm_Y, rfl, by decide +kernel⟩
theorem fo_Y_entries : pv_own R_Y 4 9 := ⟨R_Y, T_Y, 22, rfl, rfl⟩
theorem fp_Y_messages : pv_FP 4 10 (.int) false := ⟨R_Y, T_Y, 22, ty_Y, rfl, ty_Y_ok, nm_Y, rfl, by decide +kernel⟩
theorem fp_Y_origin : pv_FP 4 11 (.array (.int)) true := ⟨R_Y, T_Y, 22, ty_Y, rfl, ty_Y_ok, nm_Y, rfl, by decide +kernel⟩
theorem fo_Y_origin : pv_own R_Y 4 11 := ⟨R_Y, T_Y, 22, rfl, rfl⟩
theorem fp_Y_isSafe : pv_FP 4 12 (.array (.boolean)) true := ⟨R_Y, T_Y, 22, ty_Y, rfl, ty_Y_ok, nm_Y, rfl, by decide +kernel⟩
theorem fo_Y_isSafe : pv_own R_Y 4 12 := ⟨R_Y, T_Y, 22, rfl, rfl⟩
theorem fp_Y_gone : pv_FP 4 13 (.array (.boolean)) true := ⟨R_Y, T_Y, 22, ty_Y, rfl, ty_Y_ok, nm_Y, rfl, by decide +kernel⟩
theorem fo_Y_gone : pv_own R_Y 4 13 := ⟨R_Y, T_Y, 22, rfl, rfl⟩
theorem fp_Y_ringIn : pv_FP 4 14 (.array (.int)) true := ⟨R_Y, T_Y, 22, ty_Y, rfl, ty_Y_ok, nm_Y, rfl, by decide +kernel⟩
theorem fo_Y_ringIn : pv_own R_Y 4 14 := ⟨R_Y, T_Y, 22, rfl, rfl⟩
theorem fp_Y_number : pv_FP 4 15 (.array (.int)) true := ⟨R_Y, T_Y, 22, ty_Y, rfl, ty_Y_ok, nm_Y, rfl, by decide +kernel⟩
theorem fo_Y_number : pv_own R_Y 4 15 := ⟨R_Y, T_Y, 22, rfl, rfl⟩
theorem fp_Y_rings : pv_FP 4 16 (.int) false := ⟨R_Y, T_Y, 22, ty_Y, rfl, ty_Y_ok, nm_Y, rfl, by decide +kernel⟩
theorem fp_Y_at : pv_FP 4 17 (.array (.int)) true := ⟨R_Y, T_Y, 22, ty_Y, rfl, ty_Y_ok, nm_Y, rfl, by decide +kernel⟩
theorem fo_Y_at : pv_own R_Y 4 17 := ⟨R_Y, T_Y, 22, rfl, rfl⟩
theorem fp_Y_latest : pv_FP 4 18 (.array (.int)) true := ⟨R_Y, T_Y, 22, ty_Y, rfl, ty_Y_ok, nm_Y, rfl, by decide +kernel⟩
theorem fo_Y_latest : pv_own R_Y 4 18 := ⟨R_Y, T_Y, 22, rfl, rfl⟩
theorem fp_Y_memberBits : pv_FP 4 19 (.array (.int)) true := ⟨R_Y, T_Y, 22, ty_Y, rfl, ty_Y_ok, nm_Y, rfl, by decide +kernel⟩
theorem fo_Y_memberBits : pv_own R_Y 4 19 := ⟨R_Y, T_Y, 22, rfl, rfl⟩
theorem fp_Y_marks : pv_FP 4 20 (.array (.int)) true := ⟨R_Y, T_Y, 22, ty_Y, rfl, ty_Y_ok, nm_Y, rfl, by decide +kernel⟩
theorem fo_Y_marks : pv_own R_Y 4 20 := ⟨R_Y, T_Y, 22, rfl, rfl⟩
theorem fp_Y_wanted : pv_FP 4 21 (.array (.long)) true := ⟨R_Y, T_Y, 22, ty_Y, rfl, ty_Y_ok, nm_Y, rfl, by decide +kernel⟩
theorem fo_Y_wanted : pv_own R_Y 4 21 := ⟨R_Y, T_Y, 22, rfl, rfl⟩
end
section
/-! decode rows, by program out of the listing -/
theorem d_O_init_0 : decode c_O_init 0 = .ok (.aload_n 0, 1) := by decide +kernel
theorem d_O_init_1 : decode c_O_init 1 = .ok (.invokespecial 1, 3) := by decide +kernel
theorem d_O_init_4 : decode c_O_init 4 = .ok (.aload_n 0, 1) := by decide +kernel
theorem d_O_init_5 : decode c_O_init 5 = .ok (.iconst 5, 1) := by decide +kernel
theorem d_O_init_6 : decode c_O_init 6 = .ok (.anewarray 9, 3) := by decide +kernel
theorem d_O_init_9 : decode c_O_init 9 = .ok (.putfield 11, 3) := by decide +kernel
theorem d_O_init_12 : decode c_O_init 12 = .ok (.iconst 0, 1) := by decide +kernel
theorem d_O_init_13 : decode c_O_init 13 = .ok (.istore_n 1, 1) := by decide +kernel
theorem d_O_init_14 : decode c_O_init 14 = .ok (.iload_n 1, 1) := by decide +kernel
theorem d_O_init_15 : decode c_O_init 15 = .ok (.iconst 5, 1) := by decide +kernel
theorem d_O_init_16 : decode c_O_init 16 = .ok (.if_icmp .ge 23, 3) := by decide +kernel
theorem d_O_init_19 : decode c_O_init 19 = .ok (.aload_n 0, 1) := by decide +kernel
theorem d_O_init_20 : decode c_O_init 20 = .ok (.getfield 11, 3) := by decide +kernel
theorem d_O_init_23 : decode c_O_init 23 = .ok (.iload_n 1, 1) := by decide +kernel
theorem d_O_init_24 : decode c_O_init 24 = .ok (.new 9, 3) := by decide +kernel
theorem d_O_init_27 : decode c_O_init 27 = .ok (.dup, 1) := by decide +kernel
theorem d_O_init_28 : decode c_O_init 28 = .ok (.iload_n 1, 1) := by decide +kernel
theorem d_O_init_29 : decode c_O_init 29 = .ok (.invokespecial 15, 3) := by decide +kernel
theorem d_O_init_32 : decode c_O_init 32 = .ok (.aastore, 1) := by decide +kernel
theorem d_O_init_33 : decode c_O_init 33 = .ok (.iinc 1 1, 3) := by decide +kernel
theorem d_O_init_36 : decode c_O_init 36 = .ok (.goto (-22), 3) := by decide +kernel
theorem d_O_init_39 : decode c_O_init 39 = .ok (.aload_n 0, 1) := by decide +kernel
theorem d_O_init_40 : decode c_O_init 40 = .ok (.bipush 6, 2) := by decide +kernel
theorem d_O_init_42 : decode c_O_init 42 = .ok (.anewarray 18, 3) := by decide +kernel
theorem d_O_init_45 : decode c_O_init 45 = .ok (.putfield 20, 3) := by decide +kernel
theorem d_O_init_48 : decode c_O_init 48 = .ok (.iconst 0, 1) := by decide +kernel
theorem d_O_init_49 : decode c_O_init 49 = .ok (.istore_n 1, 1) := by decide +kernel
theorem d_O_init_50 : decode c_O_init 50 = .ok (.iload_n 1, 1) := by decide +kernel
theorem d_O_init_51 : decode c_O_init 51 = .ok (.iconst 5, 1) := by decide +kernel
theorem d_O_init_52 : decode c_O_init 52 = .ok (.if_icmp .gt 22, 3) := by decide +kernel
theorem d_O_init_55 : decode c_O_init 55 = .ok (.aload_n 0, 1) := by decide +kernel
theorem d_O_init_56 : decode c_O_init 56 = .ok (.getfield 20, 3) := by decide +kernel
theorem d_O_init_59 : decode c_O_init 59 = .ok (.iload_n 1, 1) := by decide +kernel
theorem d_O_init_60 : decode c_O_init 60 = .ok (.new 18, 3) := by decide +kernel
theorem d_O_init_63 : decode c_O_init 63 = .ok (.dup, 1) := by decide +kernel
theorem d_O_init_64 : decode c_O_init 64 = .ok (.invokespecial 24, 3) := by decide +kernel
theorem d_O_init_67 : decode c_O_init 67 = .ok (.aastore, 1) := by decide +kernel
theorem d_O_init_68 : decode c_O_init 68 = .ok (.iinc 1 1, 3) := by decide +kernel
theorem d_O_init_71 : decode c_O_init 71 = .ok (.goto (-21), 3) := by decide +kernel
theorem d_O_init_74 : decode c_O_init 74 = .ok (.aload_n 0, 1) := by decide +kernel
theorem d_O_init_75 : decode c_O_init 75 = .ok (.new 25, 3) := by decide +kernel
theorem d_O_init_78 : decode c_O_init 78 = .ok (.dup, 1) := by decide +kernel
theorem d_O_init_79 : decode c_O_init 79 = .ok (.invokespecial 27, 3) := by decide +kernel
theorem d_O_init_82 : decode c_O_init 82 = .ok (.putfield 28, 3) := by decide +kernel
theorem d_O_init_85 : decode c_O_init 85 = .ok (.aload_n 0, 1) := by decide +kernel
theorem d_O_init_86 : decode c_O_init 86 = .ok (.iconst 0, 1) := by decide +kernel
theorem d_O_init_87 : decode c_O_init 87 = .ok (.putfield 32, 3) := by decide +kernel
theorem d_O_init_90 : decode c_O_init 90 = .ok (.aload_n 0, 1) := by decide +kernel
theorem d_O_init_91 : decode c_O_init 91 = .ok (.bipush 31, 2) := by decide +kernel
theorem d_O_init_93 : decode c_O_init 93 = .ok (.invokevirtual 36, 3) := by decide +kernel
theorem d_O_init_96 : decode c_O_init 96 = .ok (.return_, 1) := by decide +kernel
theorem d_O_send_0 : decode c_O_send 0 = .ok (.iload_n 1, 1) := by decide +kernel
theorem d_O_send_1 : decode c_O_send 1 = .ok (.invokestatic 39, 3) := by decide +kernel
theorem d_O_send_4 : decode c_O_send 4 = .ok (.ifCond .ne 6, 3) := by decide +kernel
theorem d_O_send_7 : decode c_O_send 7 = .ok (.bipush (-3), 2) := by decide +kernel
theorem d_O_send_9 : decode c_O_send 9 = .ok (.ireturn, 1) := by decide +kernel
theorem d_O_send_10 : decode c_O_send 10 = .ok (.aload_n 0, 1) := by decide +kernel
theorem d_O_send_11 : decode c_O_send 11 = .ok (.getfield 11, 3) := by decide +kernel
theorem d_O_send_14 : decode c_O_send 14 = .ok (.iload_n 1, 1) := by decide +kernel
theorem d_O_send_15 : decode c_O_send 15 = .ok (.aaload, 1) := by decide +kernel
theorem d_O_send_16 : decode c_O_send 16 = .ok (.astore_n 3, 1) := by decide +kernel
theorem d_O_send_17 : decode c_O_send 17 = .ok (.aload_n 3, 1) := by decide +kernel
theorem d_O_send_18 : decode c_O_send 18 = .ok (.invokevirtual 43, 3) := by decide +kernel
theorem d_O_send_21 : decode c_O_send 21 = .ok (.ifCond .ne 6, 3) := by decide +kernel
theorem d_O_send_24 : decode c_O_send 24 = .ok (.bipush (-2), 2) := by decide +kernel
theorem d_O_send_26 : decode c_O_send 26 = .ok (.ireturn, 1) := by decide +kernel
theorem d_O_send_27 : decode c_O_send 27 = .ok (.aload_n 0, 1) := by decide +kernel
theorem d_O_send_28 : decode c_O_send 28 = .ok (.getfield 28, 3) := by decide +kernel
theorem d_O_send_31 : decode c_O_send 31 = .ok (.getfield 47, 3) := by decide +kernel
theorem d_O_send_34 : decode c_O_send 34 = .ok (.bipush 48, 2) := by decide +kernel
theorem d_O_send_36 : decode c_O_send 36 = .ok (.if_icmp .ge 12, 3) := by decide +kernel
theorem d_O_send_39 : decode c_O_send 39 = .ok (.aload_n 3, 1) := by decide +kernel
theorem d_O_send_40 : decode c_O_send 40 = .ok (.getfield 50, 3) := by decide +kernel
theorem d_O_send_43 : decode c_O_send 43 = .ok (.bipush 8, 2) := by decide +kernel
theorem d_O_send_45 : decode c_O_send 45 = .ok (.if_icmp .lt 6, 3) := by decide +kernel
theorem d_O_send_48 : decode c_O_send 48 = .ok (.bipush (-4), 2) := by decide +kernel
theorem d_O_send_50 : decode c_O_send 50 = .ok (.ireturn, 1) := by decide +kernel
theorem d_O_send_51 : decode c_O_send 51 = .ok (.aload_n 0, 1) := by decide +kernel
theorem d_O_send_52 : decode c_O_send 52 = .ok (.getfield 28, 3) := by decide +kernel
theorem d_O_send_55 : decode c_O_send 55 = .ok (.iload_n 1, 1) := by decide +kernel
theorem d_O_send_56 : decode c_O_send 56 = .ok (.iload_n 2, 1) := by decide +kernel
theorem d_O_send_57 : decode c_O_send 57 = .ok (.invokevirtual 53, 3) := by decide +kernel
theorem d_O_send_60 : decode c_O_send 60 = .ok (.istore 4, 2) := by decide +kernel
theorem d_O_send_62 : decode c_O_send 62 = .ok (.aload_n 3, 1) := by decide +kernel
theorem d_O_send_63 : decode c_O_send 63 = .ok (.iload 4, 2) := by decide +kernel
theorem d_O_send_65 : decode c_O_send 65 = .ok (.invokevirtual 57, 3) := by decide +kernel
theorem d_O_send_68 : decode c_O_send 68 = .ok (.iload 4, 2) := by decide +kernel
theorem d_O_send_70 : decode c_O_send 70 = .ok (.ireturn, 1) := by decide +kernel
theorem d_O_visit_0 : decode c_O_visit 0 = .ok (.iload_n 1, 1) := by decide +kernel
theorem d_O_visit_1 : decode c_O_visit 1 = .ok (.invokestatic 39, 3) := by decide +kernel
theorem d_O_visit_4 : decode c_O_visit 4 = .ok (.ifCond .ne 6, 3) := by decide +kernel
theorem d_O_visit_7 : decode c_O_visit 7 = .ok (.bipush (-3), 2) := by decide +kernel
theorem d_O_visit_9 : decode c_O_visit 9 = .ok (.ireturn, 1) := by decide +kernel
theorem d_O_visit_10 : decode c_O_visit 10 = .ok (.aload_n 0, 1) := by decide +kernel
theorem d_O_visit_11 : decode c_O_visit 11 = .ok (.getfield 11, 3) := by decide +kernel
theorem d_O_visit_14 : decode c_O_visit 14 = .ok (.iload_n 1, 1) := by decide +kernel
theorem d_O_visit_15 : decode c_O_visit 15 = .ok (.aaload, 1) := by decide +kernel
theorem d_O_visit_16 : decode c_O_visit 16 = .ok (.astore_n 2, 1) := by decide +kernel
theorem d_O_visit_17 : decode c_O_visit 17 = .ok (.aload_n 2, 1) := by decide +kernel
theorem d_O_visit_18 : decode c_O_visit 18 = .ok (.getfield 60, 3) := by decide +kernel
theorem d_O_visit_21 : decode c_O_visit 21 = .ok (.astore_n 3, 1) := by decide +kernel
theorem d_O_visit_22 : decode c_O_visit 22 = .ok (.aload_n 3, 1) := by decide +kernel
theorem d_O_visit_23 : decode c_O_visit 23 = .ok (.ifnonnull 6, 3) := by decide +kernel
theorem d_O_visit_26 : decode c_O_visit 26 = .ok (.bipush (-2), 2) := by decide +kernel
theorem d_O_visit_28 : decode c_O_visit 28 = .ok (.ireturn, 1) := by decide +kernel
theorem d_O_visit_29 : decode c_O_visit 29 = .ok (.aload_n 3, 1) := by decide +kernel
theorem d_O_visit_30 : decode c_O_visit 30 = .ok (.getfield 64, 3) := by decide +kernel
theorem d_O_visit_33 : decode c_O_visit 33 = .ok (.iload_n 1, 1) := by decide +kernel
theorem d_O_visit_34 : decode c_O_visit 34 = .ok (.if_icmp .eq 5, 3) := by decide +kernel
theorem d_O_visit_37 : decode c_O_visit 37 = .ok (.iconst (-1), 1) := by decide +kernel
theorem d_O_visit_38 : decode c_O_visit 38 = .ok (.ireturn, 1) := by decide +kernel
theorem d_O_visit_39 : decode c_O_visit 39 = .ok (.aload_n 0, 1) := by decide +kernel
theorem d_O_visit_40 : decode c_O_visit 40 = .ok (.aload_n 2, 1) := by decide +kernel
theorem d_O_visit_41 : decode c_O_visit 41 = .ok (.aload_n 3, 1) := by decide +kernel
theorem d_O_visit_42 : decode c_O_visit 42 = .ok (.invokevirtual 67, 3) := by decide +kernel
theorem d_O_visit_45 : decode c_O_visit 45 = .ok (.istore 4, 2) := by decide +kernel
theorem d_O_visit_47 : decode c_O_visit 47 = .ok (.aload_n 0, 1) := by decide +kernel
theorem d_O_visit_48 : decode c_O_visit 48 = .ok (.aload_n 2, 1) := by decide +kernel
theorem d_O_visit_49 : decode c_O_visit 49 = .ok (.aload_n 3, 1) := by decide +kernel
theorem d_O_visit_50 : decode c_O_visit 50 = .ok (.invokevirtual 71, 3) := by decide +kernel
theorem d_O_visit_53 : decode c_O_visit 53 = .ok (.istore 5, 2) := by decide +kernel
theorem d_O_visit_55 : decode c_O_visit 55 = .ok (.aload_n 3, 1) := by decide +kernel
theorem d_O_visit_56 : decode c_O_visit 56 = .ok (.aload_n 2, 1) := by decide +kernel
theorem d_O_visit_57 : decode c_O_visit 57 = .ok (.invokevirtual 74, 3) := by decide +kernel
theorem d_O_visit_60 : decode c_O_visit 60 = .ok (.aload_n 2, 1) := by decide +kernel
theorem d_O_visit_61 : decode c_O_visit 61 = .ok (.aload_n 3, 1) := by decide +kernel
theorem d_O_visit_62 : decode c_O_visit 62 = .ok (.invokevirtual 78, 3) := by decide +kernel
theorem d_O_visit_65 : decode c_O_visit 65 = .ok (.putfield 82, 3) := by decide +kernel
theorem d_O_visit_68 : decode c_O_visit 68 = .ok (.aload_n 0, 1) := by decide +kernel
theorem d_O_visit_69 : decode c_O_visit 69 = .ok (.aload_n 3, 1) := by decide +kernel
theorem d_O_visit_70 : decode c_O_visit 70 = .ok (.invokevirtual 85, 3) := by decide +kernel
theorem d_O_visit_73 : decode c_O_visit 73 = .ok (.aload_n 2, 1) := by decide +kernel
theorem d_O_visit_74 : decode c_O_visit 74 = .ok (.iconst 0, 1) := by decide +kernel
theorem d_O_visit_75 : decode c_O_visit 75 = .ok (.putfield 89, 3) := by decide +kernel
theorem d_O_visit_78 : decode c_O_visit 78 = .ok (.aload_n 0, 1) := by decide +kernel
theorem d_O_visit_79 : decode c_O_visit 79 = .ok (.aload_n 2, 1) := by decide +kernel
theorem d_O_visit_80 : decode c_O_visit 80 = .ok (.invokevirtual 92, 3) := by decide +kernel
theorem d_O_visit_83 : decode c_O_visit 83 = .ok (.ifCond .eq 14, 3) := by decide +kernel
theorem d_O_visit_86 : decode c_O_visit 86 = .ok (.aload_n 0, 1) := by decide +kernel
theorem d_O_visit_87 : decode c_O_visit 87 = .ok (.aload_n 2, 1) := by decide +kernel
theorem d_O_visit_88 : decode c_O_visit 88 = .ok (.getfield 96, 3) := by decide +kernel
theorem d_O_visit_91 : decode c_O_visit 91 = .ok (.invokevirtual 99, 3) := by decide +kernel
theorem d_O_visit_94 : decode c_O_visit 94 = .ok (.goto 9, 3) := by decide +kernel
theorem d_O_visit_97 : decode c_O_visit 97 = .ok (.aload_n 0, 1) := by decide +kernel
theorem d_O_visit_98 : decode c_O_visit 98 = .ok (.aload_n 2, 1) := by decide +kernel
theorem d_O_visit_99 : decode c_O_visit 99 = .ok (.aload_n 3, 1) := by decide +kernel
theorem d_O_visit_100 : decode c_O_visit 100 = .ok (.invokevirtual 102, 3) := by decide +kernel
theorem d_O_visit_103 : decode c_O_visit 103 = .ok (.iload 4, 2) := by decide +kernel
theorem d_O_visit_105 : decode c_O_visit 105 = .ok (.iload 5, 2) := by decide +kernel
theorem d_O_visit_107 : decode c_O_visit 107 = .ok (.iadd, 1) := by decide +kernel
theorem d_O_visit_108 : decode c_O_visit 108 = .ok (.ireturn, 1) := by decide +kernel
theorem d_O_tick_0 : decode c_O_tick 0 = .ok (.iload_n 1, 1) := by decide +kernel
theorem d_O_tick_1 : decode c_O_tick 1 = .ok (.invokestatic 39, 3) := by decide +kernel
theorem d_O_tick_4 : decode c_O_tick 4 = .ok (.ifCond .ne 6, 3) := by decide +kernel
theorem d_O_tick_7 : decode c_O_tick 7 = .ok (.bipush (-3), 2) := by decide +kernel
theorem d_O_tick_9 : decode c_O_tick 9 = .ok (.ireturn, 1) := by decide +kernel
theorem d_O_tick_10 : decode c_O_tick 10 = .ok (.aload_n 0, 1) := by decide +kernel
theorem d_O_tick_11 : decode c_O_tick 11 = .ok (.getfield 11, 3) := by decide +kernel
theorem d_O_tick_14 : decode c_O_tick 14 = .ok (.iload_n 1, 1) := by decide +kernel
theorem d_O_tick_15 : decode c_O_tick 15 = .ok (.aaload, 1) := by decide +kernel
theorem d_O_tick_16 : decode c_O_tick 16 = .ok (.astore_n 2, 1) := by decide +kernel
theorem d_O_tick_17 : decode c_O_tick 17 = .ok (.aload_n 2, 1) := by decide +kernel
theorem d_O_tick_18 : decode c_O_tick 18 = .ok (.invokevirtual 43, 3) := by decide +kernel
theorem d_O_tick_21 : decode c_O_tick 21 = .ok (.ifCond .ne 6, 3) := by decide +kernel
theorem d_O_tick_24 : decode c_O_tick 24 = .ok (.bipush (-2), 2) := by decide +kernel
theorem d_O_tick_26 : decode c_O_tick 26 = .ok (.ireturn, 1) := by decide +kernel
theorem d_O_tick_27 : decode c_O_tick 27 = .ok (.aload_n 2, 1) := by decide +kernel
theorem d_O_tick_28 : decode c_O_tick 28 = .ok (.dup, 1) := by decide +kernel
theorem d_O_tick_29 : decode c_O_tick 29 = .ok (.getfield 89, 3) := by decide +kernel
theorem d_O_tick_32 : decode c_O_tick 32 = .ok (.iconst 1, 1) := by decide +kernel
theorem d_O_tick_33 : decode c_O_tick 33 = .ok (.iadd, 1) := by decide +kernel
theorem d_O_tick_34 : decode c_O_tick 34 = .ok (.putfield 89, 3) := by decide +kernel
theorem d_O_tick_37 : decode c_O_tick 37 = .ok (.aload_n 2, 1) := by decide +kernel
theorem d_O_tick_38 : decode c_O_tick 38 = .ok (.getfield 89, 3) := by decide +kernel
theorem d_O_tick_41 : decode c_O_tick 41 = .ok (.iconst 4, 1) := by decide +kernel
theorem d_O_tick_42 : decode c_O_tick 42 = .ok (.if_icmp .ge 5, 3) := by decide +kernel
theorem d_O_tick_45 : decode c_O_tick 45 = .ok (.iconst 0, 1) := by decide +kernel
theorem d_O_tick_46 : decode c_O_tick 46 = .ok (.ireturn, 1) := by decide +kernel
theorem d_O_tick_47 : decode c_O_tick 47 = .ok (.aload_n 0, 1) := by decide +kernel
theorem d_O_tick_48 : decode c_O_tick 48 = .ok (.aload_n 2, 1) := by decide +kernel
theorem d_O_tick_49 : decode c_O_tick 49 = .ok (.getfield 96, 3) := by decide +kernel
theorem d_O_tick_52 : decode c_O_tick 52 = .ok (.invokevirtual 99, 3) := by decide +kernel
theorem d_O_tick_55 : decode c_O_tick 55 = .ok (.iconst 1, 1) := by decide +kernel
theorem d_O_tick_56 : decode c_O_tick 56 = .ok (.ireturn, 1) := by decide +kernel
theorem d_O_crash_0 : decode c_O_crash 0 = .ok (.aload_n 0, 1) := by decide +kernel
theorem d_O_crash_1 : decode c_O_crash 1 = .ok (.iload_n 1, 1) := by decide +kernel
theorem d_O_crash_2 : decode c_O_crash 2 = .ok (.invokevirtual 106, 3) := by decide +kernel
theorem d_O_crash_5 : decode c_O_crash 5 = .ok (.ifCond .ne 5, 3) := by decide +kernel
theorem d_O_crash_8 : decode c_O_crash 8 = .ok (.iconst 0, 1) := by decide +kernel
theorem d_O_crash_9 : decode c_O_crash 9 = .ok (.ireturn, 1) := by decide +kernel
theorem d_O_crash_10 : decode c_O_crash 10 = .ok (.aload_n 0, 1) := by decide +kernel
theorem d_O_crash_11 : decode c_O_crash 11 = .ok (.getfield 11, 3) := by decide +kernel
theorem d_O_crash_14 : decode c_O_crash 14 = .ok (.iload_n 1, 1) := by decide +kernel
theorem d_O_crash_15 : decode c_O_crash 15 = .ok (.aaload, 1) := by decide +kernel
theorem d_O_crash_16 : decode c_O_crash 16 = .ok (.invokevirtual 109, 3) := by decide +kernel
theorem d_O_crash_19 : decode c_O_crash 19 = .ok (.iconst 1, 1) := by decide +kernel
theorem d_O_crash_20 : decode c_O_crash 20 = .ok (.ireturn, 1) := by decide +kernel
theorem d_O_restart_0 : decode c_O_restart 0 = .ok (.iload_n 1, 1) := by decide +kernel
theorem d_O_restart_1 : decode c_O_restart 1 = .ok (.invokestatic 39, 3) := by decide +kernel
theorem d_O_restart_4 : decode c_O_restart 4 = .ok (.ifCond .eq 15, 3) := by decide +kernel
theorem d_O_restart_7 : decode c_O_restart 7 = .ok (.aload_n 0, 1) := by decide +kernel
theorem d_O_restart_8 : decode c_O_restart 8 = .ok (.getfield 11, 3) := by decide +kernel
theorem d_O_restart_11 : decode c_O_restart 11 = .ok (.iload_n 1, 1) := by decide +kernel
theorem d_O_restart_12 : decode c_O_restart 12 = .ok (.aaload, 1) := by decide +kernel
theorem d_O_restart_13 : decode c_O_restart 13 = .ok (.invokevirtual 43, 3) := by decide +kernel
theorem d_O_restart_16 : decode c_O_restart 16 = .ok (.ifCond .eq 5, 3) := by decide +kernel
theorem d_O_restart_19 : decode c_O_restart 19 = .ok (.iconst 0, 1) := by decide +kernel
theorem d_O_restart_20 : decode c_O_restart 20 = .ok (.ireturn, 1) := by decide +kernel
theorem d_O_restart_21 : decode c_O_restart 21 = .ok (.aload_n 0, 1) := by decide +kernel
theorem d_O_restart_22 : decode c_O_restart 22 = .ok (.iconst 1, 1) := by decide +kernel
theorem d_O_restart_23 : decode c_O_restart 23 = .ok (.iload_n 1, 1) := by decide +kernel
theorem d_O_restart_24 : decode c_O_restart 24 = .ok (.ishl, 1) := by decide +kernel
theorem d_O_restart_25 : decode c_O_restart 25 = .ok (.invokevirtual 36, 3) := by decide +kernel
theorem d_O_restart_28 : decode c_O_restart 28 = .ok (.iconst 1, 1) := by decide +kernel
theorem d_O_restart_29 : decode c_O_restart 29 = .ok (.ireturn, 1) := by decide +kernel
theorem d_O_place_0 : decode c_O_place 0 = .ok (.iload_n 1, 1) := by decide +kernel
theorem d_O_place_1 : decode c_O_place 1 = .ok (.invokestatic 39, 3) := by decide +kernel
theorem d_O_place_4 : decode c_O_place 4 = .ok (.ifCond .eq 12, 3) := by decide +kernel
theorem d_O_place_7 : decode c_O_place 7 = .ok (.iload_n 2, 1) := by decide +kernel
theorem d_O_place_8 : decode c_O_place 8 = .ok (.ifCond .lt 8, 3) := by decide +kernel
theorem d_O_place_11 : decode c_O_place 11 = .ok (.iload_n 2, 1) := by decide +kernel
theorem d_O_place_12 : decode c_O_place 12 = .ok (.iconst 3, 1) := by decide +kernel
theorem d_O_place_13 : decode c_O_place 13 = .ok (.if_icmp .lt 5, 3) := by decide +kernel
theorem d_O_place_16 : decode c_O_place 16 = .ok (.iconst 0, 1) := by decide +kernel
theorem d_O_place_17 : decode c_O_place 17 = .ok (.ireturn, 1) := by decide +kernel
theorem d_O_place_18 : decode c_O_place 18 = .ok (.aload_n 0, 1) := by decide +kernel
theorem d_O_place_19 : decode c_O_place 19 = .ok (.getfield 11, 3) := by decide +kernel
theorem d_O_place_22 : decode c_O_place 22 = .ok (.iload_n 1, 1) := by decide +kernel
theorem d_O_place_23 : decode c_O_place 23 = .ok (.aaload, 1) := by decide +kernel
theorem d_O_place_24 : decode c_O_place 24 = .ok (.iload_n 2, 1) := by decide +kernel
theorem d_O_place_25 : decode c_O_place 25 = .ok (.putfield 96, 3) := by decide +kernel
theorem d_O_place_28 : decode c_O_place 28 = .ok (.iconst 1, 1) := by decide +kernel
theorem d_O_place_29 : decode c_O_place 29 = .ok (.ireturn, 1) := by decide +kernel
theorem d_O_deafen_0 : decode c_O_deafen 0 = .ok (.aload_n 0, 1) := by decide +kernel
theorem d_O_deafen_1 : decode c_O_deafen 1 = .ok (.iload_n 1, 1) := by decide +kernel
theorem d_O_deafen_2 : decode c_O_deafen 2 = .ok (.invokevirtual 106, 3) := by decide +kernel
theorem d_O_deafen_5 : decode c_O_deafen 5 = .ok (.ifCond .eq 13, 3) := by decide +kernel
theorem d_O_deafen_8 : decode c_O_deafen 8 = .ok (.iload_n 2, 1) := by decide +kernel
theorem d_O_deafen_9 : decode c_O_deafen 9 = .ok (.ifCond .lt 9, 3) := by decide +kernel
theorem d_O_deafen_12 : decode c_O_deafen 12 = .ok (.iload_n 2, 1) := by decide +kernel
theorem d_O_deafen_13 : decode c_O_deafen 13 = .ok (.bipush 20, 2) := by decide +kernel
theorem d_O_deafen_15 : decode c_O_deafen 15 = .ok (.if_icmp .le 5, 3) := by decide +kernel
theorem d_O_deafen_18 : decode c_O_deafen 18 = .ok (.iconst 0, 1) := by decide +kernel
theorem d_O_deafen_19 : decode c_O_deafen 19 = .ok (.ireturn, 1) := by decide +kernel
theorem d_O_deafen_20 : decode c_O_deafen 20 = .ok (.aload_n 0, 1) := by decide +kernel
theorem d_O_deafen_21 : decode c_O_deafen 21 = .ok (.getfield 11, 3) := by decide +kernel
theorem d_O_deafen_24 : decode c_O_deafen 24 = .ok (.iload_n 1, 1) := by decide +kernel
theorem d_O_deafen_25 : decode c_O_deafen 25 = .ok (.aaload, 1) := by decide +kernel
theorem d_O_deafen_26 : decode c_O_deafen 26 = .ok (.iload_n 2, 1) := by decide +kernel
theorem d_O_deafen_27 : decode c_O_deafen 27 = .ok (.putfield 112, 3) := by decide +kernel
theorem d_O_deafen_30 : decode c_O_deafen 30 = .ok (.iconst 1, 1) := by decide +kernel
theorem d_O_deafen_31 : decode c_O_deafen 31 = .ok (.ireturn, 1) := by decide +kernel
theorem d_O_drop_0 : decode c_O_drop 0 = .ok (.iload_n 1, 1) := by decide +kernel
theorem d_O_drop_1 : decode c_O_drop 1 = .ok (.invokestatic 39, 3) := by decide +kernel
theorem d_O_drop_4 : decode c_O_drop 4 = .ok (.ifCond .ne 5, 3) := by decide +kernel
theorem d_O_drop_7 : decode c_O_drop 7 = .ok (.iconst 0, 1) := by decide +kernel
theorem d_O_drop_8 : decode c_O_drop 8 = .ok (.ireturn, 1) := by decide +kernel
theorem d_O_drop_9 : decode c_O_drop 9 = .ok (.aload_n 0, 1) := by decide +kernel
theorem d_O_drop_10 : decode c_O_drop 10 = .ok (.getfield 11, 3) := by decide +kernel
theorem d_O_drop_13 : decode c_O_drop 13 = .ok (.iload_n 1, 1) := by decide +kernel
theorem d_O_drop_14 : decode c_O_drop 14 = .ok (.aaload, 1) := by decide +kernel
theorem d_O_drop_15 : decode c_O_drop 15 = .ok (.getfield 60, 3) := by decide +kernel
theorem d_O_drop_18 : decode c_O_drop 18 = .ok (.astore_n 2, 1) := by decide +kernel
theorem d_O_drop_19 : decode c_O_drop 19 = .ok (.aload_n 2, 1) := by decide +kernel
theorem d_O_drop_20 : decode c_O_drop 20 = .ok (.ifnull 10, 3) := by decide +kernel
theorem d_O_drop_23 : decode c_O_drop 23 = .ok (.aload_n 2, 1) := by decide +kernel
theorem d_O_drop_24 : decode c_O_drop 24 = .ok (.invokevirtual 115, 3) := by decide +kernel
theorem d_O_drop_27 : decode c_O_drop 27 = .ok (.ifCond .eq 5, 3) := by decide +kernel
theorem d_O_drop_30 : decode c_O_drop 30 = .ok (.iconst 0, 1) := by decide +kernel
theorem d_O_drop_31 : decode c_O_drop 31 = .ok (.ireturn, 1) := by decide +kernel
theorem d_O_drop_32 : decode c_O_drop 32 = .ok (.aload_n 2, 1) := by decide +kernel
theorem d_O_drop_33 : decode c_O_drop 33 = .ok (.iconst (-1), 1) := by decide +kernel
theorem d_O_drop_34 : decode c_O_drop 34 = .ok (.putfield 64, 3) := by decide +kernel
theorem d_O_drop_37 : decode c_O_drop 37 = .ok (.iconst 1, 1) := by decide +kernel
theorem d_O_drop_38 : decode c_O_drop 38 = .ok (.ireturn, 1) := by decide +kernel
theorem d_O_ring_0 : decode c_O_ring 0 = .ok (.iload_n 1, 1) := by decide +kernel
theorem d_O_ring_1 : decode c_O_ring 1 = .ok (.invokestatic 39, 3) := by decide +kernel
theorem d_O_ring_4 : decode c_O_ring 4 = .ok (.ifCond .ne 6, 3) := by decide +kernel
theorem d_O_ring_7 : decode c_O_ring 7 = .ok (.bipush (-3), 2) := by decide +kernel
theorem d_O_ring_9 : decode c_O_ring 9 = .ok (.ireturn, 1) := by decide +kernel
theorem d_O_ring_10 : decode c_O_ring 10 = .ok (.aload_n 0, 1) := by decide +kernel
theorem d_O_ring_11 : decode c_O_ring 11 = .ok (.getfield 11, 3) := by decide +kernel
theorem d_O_ring_14 : decode c_O_ring 14 = .ok (.iload_n 1, 1) := by decide +kernel
theorem d_O_ring_15 : decode c_O_ring 15 = .ok (.aaload, 1) := by decide +kernel
theorem d_O_ring_16 : decode c_O_ring 16 = .ok (.getfield 60, 3) := by decide +kernel
theorem d_O_ring_19 : decode c_O_ring 19 = .ok (.astore_n 2, 1) := by decide +kernel
theorem d_O_ring_20 : decode c_O_ring 20 = .ok (.aload_n 2, 1) := by decide +kernel
theorem d_O_ring_21 : decode c_O_ring 21 = .ok (.ifnonnull 8, 3) := by decide +kernel
theorem d_O_ring_24 : decode c_O_ring 24 = .ok (.bipush (-2), 2) := by decide +kernel
theorem d_O_ring_26 : decode c_O_ring 26 = .ok (.goto 7, 3) := by decide +kernel
theorem d_O_ring_29 : decode c_O_ring 29 = .ok (.aload_n 2, 1) := by decide +kernel
theorem d_O_ring_30 : decode c_O_ring 30 = .ok (.getfield 118, 3) := by decide +kernel
theorem d_O_ring_33 : decode c_O_ring 33 = .ok (.ireturn, 1) := by decide +kernel
theorem d_O_members_0 : decode c_O_members 0 = .ok (.iload_n 1, 1) := by decide +kernel
theorem d_O_members_1 : decode c_O_members 1 = .ok (.invokestatic 39, 3) := by decide +kernel
theorem d_O_members_4 : decode c_O_members 4 = .ok (.ifCond .ne 6, 3) := by decide +kernel
theorem d_O_members_7 : decode c_O_members 7 = .ok (.bipush (-3), 2) := by decide +kernel
theorem d_O_members_9 : decode c_O_members 9 = .ok (.ireturn, 1) := by decide +kernel
theorem d_O_members_10 : decode c_O_members 10 = .ok (.aload_n 0, 1) := by decide +kernel
theorem d_O_members_11 : decode c_O_members 11 = .ok (.getfield 11, 3) := by decide +kernel
theorem d_O_members_14 : decode c_O_members 14 = .ok (.iload_n 1, 1) := by decide +kernel
theorem d_O_members_15 : decode c_O_members 15 = .ok (.aaload, 1) := by decide +kernel
theorem d_O_members_16 : decode c_O_members 16 = .ok (.getfield 60, 3) := by decide +kernel
theorem d_O_members_19 : decode c_O_members 19 = .ok (.astore_n 2, 1) := by decide +kernel
theorem d_O_members_20 : decode c_O_members 20 = .ok (.aload_n 2, 1) := by decide +kernel
theorem d_O_members_21 : decode c_O_members 21 = .ok (.ifnonnull 8, 3) := by decide +kernel
theorem d_O_members_24 : decode c_O_members 24 = .ok (.bipush (-2), 2) := by decide +kernel
theorem d_O_members_26 : decode c_O_members 26 = .ok (.goto 7, 3) := by decide +kernel
theorem d_O_members_29 : decode c_O_members 29 = .ok (.aload_n 2, 1) := by decide +kernel
theorem d_O_members_30 : decode c_O_members 30 = .ok (.getfield 121, 3) := by decide +kernel
theorem d_O_members_33 : decode c_O_members 33 = .ok (.ireturn, 1) := by decide +kernel
theorem d_O_token_0 : decode c_O_token 0 = .ok (.iload_n 1, 1) := by decide +kernel
theorem d_O_token_1 : decode c_O_token 1 = .ok (.invokestatic 39, 3) := by decide +kernel
theorem d_O_token_4 : decode c_O_token 4 = .ok (.ifCond .ne 6, 3) := by decide +kernel
theorem d_O_token_7 : decode c_O_token 7 = .ok (.bipush (-3), 2) := by decide +kernel
theorem d_O_token_9 : decode c_O_token 9 = .ok (.ireturn, 1) := by decide +kernel
theorem d_O_token_10 : decode c_O_token 10 = .ok (.aload_n 0, 1) := by decide +kernel
theorem d_O_token_11 : decode c_O_token 11 = .ok (.getfield 11, 3) := by decide +kernel
theorem d_O_token_14 : decode c_O_token 14 = .ok (.iload_n 1, 1) := by decide +kernel
theorem d_O_token_15 : decode c_O_token 15 = .ok (.aaload, 1) := by decide +kernel
theorem d_O_token_16 : decode c_O_token 16 = .ok (.getfield 60, 3) := by decide +kernel
theorem d_O_token_19 : decode c_O_token 19 = .ok (.astore_n 2, 1) := by decide +kernel
theorem d_O_token_20 : decode c_O_token 20 = .ok (.aload_n 2, 1) := by decide +kernel
theorem d_O_token_21 : decode c_O_token 21 = .ok (.ifnonnull 6, 3) := by decide +kernel
theorem d_O_token_24 : decode c_O_token 24 = .ok (.bipush (-2), 2) := by decide +kernel
theorem d_O_token_26 : decode c_O_token 26 = .ok (.ireturn, 1) := by decide +kernel
theorem d_O_token_27 : decode c_O_token 27 = .ok (.aload_n 2, 1) := by decide +kernel
theorem d_O_token_28 : decode c_O_token 28 = .ok (.invokevirtual 115, 3) := by decide +kernel
theorem d_O_token_31 : decode c_O_token 31 = .ok (.ifCond .eq 7, 3) := by decide +kernel
theorem d_O_token_34 : decode c_O_token 34 = .ok (.iconst (-1), 1) := by decide +kernel
theorem d_O_token_35 : decode c_O_token 35 = .ok (.goto 7, 3) := by decide +kernel
theorem d_O_token_38 : decode c_O_token 38 = .ok (.aload_n 2, 1) := by decide +kernel
theorem d_O_token_39 : decode c_O_token 39 = .ok (.getfield 64, 3) := by decide +kernel
theorem d_O_token_42 : decode c_O_token 42 = .ok (.ireturn, 1) := by decide +kernel
theorem d_O_last_0 : decode c_O_last 0 = .ok (.iload_n 1, 1) := by decide +kernel
theorem d_O_last_1 : decode c_O_last 1 = .ok (.invokestatic 39, 3) := by decide +kernel
theorem d_O_last_4 : decode c_O_last 4 = .ok (.ifCond .ne 6, 3) := by decide +kernel
theorem d_O_last_7 : decode c_O_last 7 = .ok (.bipush (-3), 2) := by decide +kernel
theorem d_O_last_9 : decode c_O_last 9 = .ok (.ireturn, 1) := by decide +kernel
theorem d_O_last_10 : decode c_O_last 10 = .ok (.aload_n 0, 1) := by decide +kernel
theorem d_O_last_11 : decode c_O_last 11 = .ok (.getfield 11, 3) := by decide +kernel
theorem d_O_last_14 : decode c_O_last 14 = .ok (.iload_n 1, 1) := by decide +kernel
theorem d_O_last_15 : decode c_O_last 15 = .ok (.aaload, 1) := by decide +kernel
theorem d_O_last_16 : decode c_O_last 16 = .ok (.getfield 60, 3) := by decide +kernel
theorem d_O_last_19 : decode c_O_last 19 = .ok (.astore_n 2, 1) := by decide +kernel
theorem d_O_last_20 : decode c_O_last 20 = .ok (.aload_n 2, 1) := by decide +kernel
theorem d_O_last_21 : decode c_O_last 21 = .ok (.ifnonnull 6, 3) := by decide +kernel
theorem d_O_last_24 : decode c_O_last 24 = .ok (.bipush (-2), 2) := by decide +kernel
theorem d_O_last_26 : decode c_O_last 26 = .ok (.ireturn, 1) := by decide +kernel
theorem d_O_last_27 : decode c_O_last 27 = .ok (.aload_n 2, 1) := by decide +kernel
theorem d_O_last_28 : decode c_O_last 28 = .ok (.invokevirtual 115, 3) := by decide +kernel
theorem d_O_last_31 : decode c_O_last 31 = .ok (.ifCond .eq 7, 3) := by decide +kernel
theorem d_O_last_34 : decode c_O_last 34 = .ok (.iconst (-1), 1) := by decide +kernel
theorem d_O_last_35 : decode c_O_last 35 = .ok (.goto 7, 3) := by decide +kernel
theorem d_O_last_38 : decode c_O_last 38 = .ok (.aload_n 2, 1) := by decide +kernel
theorem d_O_last_39 : decode c_O_last 39 = .ok (.getfield 124, 3) := by decide +kernel
theorem d_O_last_42 : decode c_O_last 42 = .ok (.ireturn, 1) := by decide +kernel
theorem d_O_requests_0 : decode c_O_requests 0 = .ok (.iload_n 1, 1) := by decide +kernel
theorem d_O_requests_1 : decode c_O_requests 1 = .ok (.invokestatic 39, 3) := by decide +kernel
theorem d_O_requests_4 : decode c_O_requests 4 = .ok (.ifCond .ne 6, 3) := by decide +kernel
theorem d_O_requests_7 : decode c_O_requests 7 = .ok (.bipush (-3), 2) := by decide +kernel
theorem d_O_requests_9 : decode c_O_requests 9 = .ok (.ireturn, 1) := by decide +kernel
theorem d_O_requests_10 : decode c_O_requests 10 = .ok (.aload_n 0, 1) := by decide +kernel
theorem d_O_requests_11 : decode c_O_requests 11 = .ok (.getfield 11, 3) := by decide +kernel
theorem d_O_requests_14 : decode c_O_requests 14 = .ok (.iload_n 1, 1) := by decide +kernel
theorem d_O_requests_15 : decode c_O_requests 15 = .ok (.aaload, 1) := by decide +kernel
theorem d_O_requests_16 : decode c_O_requests 16 = .ok (.getfield 60, 3) := by decide +kernel
theorem d_O_requests_19 : decode c_O_requests 19 = .ok (.astore_n 2, 1) := by decide +kernel
theorem d_O_requests_20 : decode c_O_requests 20 = .ok (.aload_n 2, 1) := by decide +kernel
theorem d_O_requests_21 : decode c_O_requests 21 = .ok (.ifnonnull 6, 3) := by decide +kernel
theorem d_O_requests_24 : decode c_O_requests 24 = .ok (.bipush (-2), 2) := by decide +kernel
theorem d_O_requests_26 : decode c_O_requests 26 = .ok (.ireturn, 1) := by decide +kernel
theorem d_O_requests_27 : decode c_O_requests 27 = .ok (.aload_n 2, 1) := by decide +kernel
theorem d_O_requests_28 : decode c_O_requests 28 = .ok (.invokevirtual 115, 3) := by decide +kernel
theorem d_O_requests_31 : decode c_O_requests 31 = .ok (.ifCond .eq 7, 3) := by decide +kernel
theorem d_O_requests_34 : decode c_O_requests 34 = .ok (.iconst (-1), 1) := by decide +kernel
theorem d_O_requests_35 : decode c_O_requests 35 = .ok (.goto 10, 3) := by decide +kernel
theorem d_O_requests_38 : decode c_O_requests 38 = .ok (.aload_n 2, 1) := by decide +kernel
theorem d_O_requests_39 : decode c_O_requests 39 = .ok (.getfield 127, 3) := by decide +kernel
theorem d_O_requests_42 : decode c_O_requests 42 = .ok (.invokestatic 131, 3) := by decide +kernel
theorem d_O_requests_45 : decode c_O_requests 45 = .ok (.ireturn, 1) := by decide +kernel
theorem d_O_reach_0 : decode c_O_reach 0 = .ok (.iload_n 1, 1) := by decide +kernel
theorem d_O_reach_1 : decode c_O_reach 1 = .ok (.invokestatic 39, 3) := by decide +kernel
theorem d_O_reach_4 : decode c_O_reach 4 = .ok (.ifCond .ne 6, 3) := by decide +kernel
theorem d_O_reach_7 : decode c_O_reach 7 = .ok (.bipush (-3), 2) := by decide +kernel
theorem d_O_reach_9 : decode c_O_reach 9 = .ok (.ireturn, 1) := by decide +kernel
theorem d_O_reach_10 : decode c_O_reach 10 = .ok (.aload_n 0, 1) := by decide +kernel
theorem d_O_reach_11 : decode c_O_reach 11 = .ok (.getfield 11, 3) := by decide +kernel
theorem d_O_reach_14 : decode c_O_reach 14 = .ok (.iload_n 1, 1) := by decide +kernel
theorem d_O_reach_15 : decode c_O_reach 15 = .ok (.aaload, 1) := by decide +kernel
theorem d_O_reach_16 : decode c_O_reach 16 = .ok (.astore_n 2, 1) := by decide +kernel
theorem d_O_reach_17 : decode c_O_reach 17 = .ok (.aload_n 2, 1) := by decide +kernel
theorem d_O_reach_18 : decode c_O_reach 18 = .ok (.invokevirtual 43, 3) := by decide +kernel
theorem d_O_reach_21 : decode c_O_reach 21 = .ok (.ifCond .eq 10, 3) := by decide +kernel
theorem d_O_reach_24 : decode c_O_reach 24 = .ok (.aload_n 2, 1) := by decide +kernel
theorem d_O_reach_25 : decode c_O_reach 25 = .ok (.invokevirtual 137, 3) := by decide +kernel
theorem d_O_reach_28 : decode c_O_reach 28 = .ok (.goto 5, 3) := by decide +kernel
theorem d_O_reach_31 : decode c_O_reach 31 = .ok (.bipush (-2), 2) := by decide +kernel
theorem d_O_reach_33 : decode c_O_reach 33 = .ok (.ireturn, 1) := by decide +kernel
theorem d_O_line_0 : decode c_O_line 0 = .ok (.iload_n 1, 1) := by decide +kernel
theorem d_O_line_1 : decode c_O_line 1 = .ok (.invokestatic 39, 3) := by decide +kernel
theorem d_O_line_4 : decode c_O_line 4 = .ok (.ifCond .ne 6, 3) := by decide +kernel
theorem d_O_line_7 : decode c_O_line 7 = .ok (.bipush (-3), 2) := by decide +kernel
theorem d_O_line_9 : decode c_O_line 9 = .ok (.ireturn, 1) := by decide +kernel
theorem d_O_line_10 : decode c_O_line 10 = .ok (.aload_n 0, 1) := by decide +kernel
theorem d_O_line_11 : decode c_O_line 11 = .ok (.getfield 11, 3) := by decide +kernel
theorem d_O_line_14 : decode c_O_line 14 = .ok (.iload_n 1, 1) := by decide +kernel
theorem d_O_line_15 : decode c_O_line 15 = .ok (.aaload, 1) := by decide +kernel
theorem d_O_line_16 : decode c_O_line 16 = .ok (.astore_n 2, 1) := by decide +kernel
theorem d_O_line_17 : decode c_O_line 17 = .ok (.aload_n 2, 1) := by decide +kernel
theorem d_O_line_18 : decode c_O_line 18 = .ok (.invokevirtual 43, 3) := by decide +kernel
theorem d_O_line_21 : decode c_O_line 21 = .ok (.ifCond .eq 10, 3) := by decide +kernel
theorem d_O_line_24 : decode c_O_line 24 = .ok (.aload_n 2, 1) := by decide +kernel
theorem d_O_line_25 : decode c_O_line 25 = .ok (.getfield 82, 3) := by decide +kernel
theorem d_O_line_28 : decode c_O_line 28 = .ok (.goto 5, 3) := by decide +kernel
theorem d_O_line_31 : decode c_O_line 31 = .ok (.bipush (-2), 2) := by decide +kernel
theorem d_O_line_33 : decode c_O_line 33 = .ok (.ireturn, 1) := by decide +kernel
theorem d_O_waiting_0 : decode c_O_waiting 0 = .ok (.iload_n 1, 1) := by decide +kernel
theorem d_O_waiting_1 : decode c_O_waiting 1 = .ok (.invokestatic 39, 3) := by decide +kernel
theorem d_O_waiting_4 : decode c_O_waiting 4 = .ok (.ifCond .ne 6, 3) := by decide +kernel
theorem d_O_waiting_7 : decode c_O_waiting 7 = .ok (.bipush (-3), 2) := by decide +kernel
theorem d_O_waiting_9 : decode c_O_waiting 9 = .ok (.ireturn, 1) := by decide +kernel
theorem d_O_waiting_10 : decode c_O_waiting 10 = .ok (.aload_n 0, 1) := by decide +kernel
theorem d_O_waiting_11 : decode c_O_waiting 11 = .ok (.getfield 11, 3) := by decide +kernel
theorem d_O_waiting_14 : decode c_O_waiting 14 = .ok (.iload_n 1, 1) := by decide +kernel
theorem d_O_waiting_15 : decode c_O_waiting 15 = .ok (.aaload, 1) := by decide +kernel
theorem d_O_waiting_16 : decode c_O_waiting 16 = .ok (.astore_n 2, 1) := by decide +kernel
theorem d_O_waiting_17 : decode c_O_waiting 17 = .ok (.aload_n 2, 1) := by decide +kernel
theorem d_O_waiting_18 : decode c_O_waiting 18 = .ok (.invokevirtual 43, 3) := by decide +kernel
theorem d_O_waiting_21 : decode c_O_waiting 21 = .ok (.ifCond .eq 10, 3) := by decide +kernel
theorem d_O_waiting_24 : decode c_O_waiting 24 = .ok (.aload_n 2, 1) := by decide +kernel
theorem d_O_waiting_25 : decode c_O_waiting 25 = .ok (.getfield 50, 3) := by decide +kernel
theorem d_O_waiting_28 : decode c_O_waiting 28 = .ok (.goto 5, 3) := by decide +kernel
theorem d_O_waiting_31 : decode c_O_waiting 31 = .ok (.bipush (-2), 2) := by decide +kernel
theorem d_O_waiting_33 : decode c_O_waiting 33 = .ok (.ireturn, 1) := by decide +kernel
theorem d_O_delivered_0 : decode c_O_delivered 0 = .ok (.iload_n 1, 1) := by decide +kernel
theorem d_O_delivered_1 : decode c_O_delivered 1 = .ok (.invokestatic 39, 3) := by decide +kernel
theorem d_O_delivered_4 : decode c_O_delivered 4 = .ok (.ifCond .eq 15, 3) := by decide +kernel
theorem d_O_delivered_7 : decode c_O_delivered 7 = .ok (.aload_n 0, 1) := by decide +kernel
theorem d_O_delivered_8 : decode c_O_delivered 8 = .ok (.getfield 11, 3) := by decide +kernel
theorem d_O_delivered_11 : decode c_O_delivered 11 = .ok (.iload_n 1, 1) := by decide +kernel
theorem d_O_delivered_12 : decode c_O_delivered 12 = .ok (.aaload, 1) := by decide +kernel
theorem d_O_delivered_13 : decode c_O_delivered 13 = .ok (.getfield 140, 3) := by decide +kernel
theorem d_O_delivered_16 : decode c_O_delivered 16 = .ok (.goto 5, 3) := by decide +kernel
theorem d_O_delivered_19 : decode c_O_delivered 19 = .ok (.bipush (-3), 2) := by decide +kernel
theorem d_O_delivered_21 : decode c_O_delivered 21 = .ok (.ireturn, 1) := by decide +kernel
theorem d_O_log_0 : decode c_O_log 0 = .ok (.iload_n 1, 1) := by decide +kernel
theorem d_O_log_1 : decode c_O_log 1 = .ok (.invokestatic 39, 3) := by decide +kernel
theorem d_O_log_4 : decode c_O_log 4 = .ok (.ifCond .ne 6, 3) := by decide +kernel
theorem d_O_log_7 : decode c_O_log 7 = .ok (.bipush (-3), 2) := by decide +kernel
theorem d_O_log_9 : decode c_O_log 9 = .ok (.ireturn, 1) := by decide +kernel
theorem d_O_log_10 : decode c_O_log 10 = .ok (.aload_n 0, 1) := by decide +kernel
theorem d_O_log_11 : decode c_O_log 11 = .ok (.getfield 11, 3) := by decide +kernel
theorem d_O_log_14 : decode c_O_log 14 = .ok (.iload_n 1, 1) := by decide +kernel
theorem d_O_log_15 : decode c_O_log 15 = .ok (.aaload, 1) := by decide +kernel
theorem d_O_log_16 : decode c_O_log 16 = .ok (.astore_n 3, 1) := by decide +kernel
theorem d_O_log_17 : decode c_O_log 17 = .ok (.iload_n 2, 1) := by decide +kernel
theorem d_O_log_18 : decode c_O_log 18 = .ok (.ifCond .lt 11, 3) := by decide +kernel
theorem d_O_log_21 : decode c_O_log 21 = .ok (.iload_n 2, 1) := by decide +kernel
theorem d_O_log_22 : decode c_O_log 22 = .ok (.aload_n 3, 1) := by decide +kernel
theorem d_O_log_23 : decode c_O_log 23 = .ok (.getfield 140, 3) := by decide +kernel
theorem d_O_log_26 : decode c_O_log 26 = .ok (.if_icmp .lt 6, 3) := by decide +kernel
theorem d_O_log_29 : decode c_O_log 29 = .ok (.bipush (-3), 2) := by decide +kernel
theorem d_O_log_31 : decode c_O_log 31 = .ok (.ireturn, 1) := by decide +kernel
theorem d_O_log_32 : decode c_O_log 32 = .ok (.aload_n 3, 1) := by decide +kernel
theorem d_O_log_33 : decode c_O_log 33 = .ok (.getfield 143, 3) := by decide +kernel
theorem d_O_log_36 : decode c_O_log 36 = .ok (.iload_n 2, 1) := by decide +kernel
theorem d_O_log_37 : decode c_O_log 37 = .ok (.iaload, 1) := by decide +kernel
theorem d_O_log_38 : decode c_O_log 38 = .ok (.ireturn, 1) := by decide +kernel
theorem d_O_stamp_0 : decode c_O_stamp 0 = .ok (.iload_n 1, 1) := by decide +kernel
theorem d_O_stamp_1 : decode c_O_stamp 1 = .ok (.iconst 1, 1) := by decide +kernel
theorem d_O_stamp_2 : decode c_O_stamp 2 = .ok (.if_icmp .lt 14, 3) := by decide +kernel
theorem d_O_stamp_5 : decode c_O_stamp 5 = .ok (.iload_n 1, 1) := by decide +kernel
theorem d_O_stamp_6 : decode c_O_stamp 6 = .ok (.aload_n 0, 1) := by decide +kernel
theorem d_O_stamp_7 : decode c_O_stamp 7 = .ok (.getfield 28, 3) := by decide +kernel
theorem d_O_stamp_10 : decode c_O_stamp 10 = .ok (.getfield 47, 3) := by decide +kernel
theorem d_O_stamp_13 : decode c_O_stamp 13 = .ok (.if_icmp .le 6, 3) := by decide +kernel
theorem d_O_stamp_16 : decode c_O_stamp 16 = .ok (.bipush (-3), 2) := by decide +kernel
theorem d_O_stamp_18 : decode c_O_stamp 18 = .ok (.ireturn, 1) := by decide +kernel
theorem d_O_stamp_19 : decode c_O_stamp 19 = .ok (.aload_n 0, 1) := by decide +kernel
theorem d_O_stamp_20 : decode c_O_stamp 20 = .ok (.getfield 28, 3) := by decide +kernel
theorem d_O_stamp_23 : decode c_O_stamp 23 = .ok (.getfield 147, 3) := by decide +kernel
theorem d_O_stamp_26 : decode c_O_stamp 26 = .ok (.iload_n 1, 1) := by decide +kernel
theorem d_O_stamp_27 : decode c_O_stamp 27 = .ok (.iaload, 1) := by decide +kernel
theorem d_O_stamp_28 : decode c_O_stamp 28 = .ok (.ireturn, 1) := by decide +kernel
theorem d_O_isNode_0 : decode c_O_isNode 0 = .ok (.iload_n 0, 1) := by decide +kernel
theorem d_O_isNode_1 : decode c_O_isNode 1 = .ok (.ifCond .lt 12, 3) := by decide +kernel
theorem d_O_isNode_4 : decode c_O_isNode 4 = .ok (.iload_n 0, 1) := by decide +kernel
theorem d_O_isNode_5 : decode c_O_isNode 5 = .ok (.iconst 5, 1) := by decide +kernel
theorem d_O_isNode_6 : decode c_O_isNode 6 = .ok (.if_icmp .ge 7, 3) := by decide +kernel
theorem d_O_isNode_9 : decode c_O_isNode 9 = .ok (.iconst 1, 1) := by decide +kernel
theorem d_O_isNode_10 : decode c_O_isNode 10 = .ok (.goto 4, 3) := by decide +kernel
theorem d_O_isNode_13 : decode c_O_isNode 13 = .ok (.iconst 0, 1) := by decide +kernel
theorem d_O_isNode_14 : decode c_O_isNode 14 = .ok (.ireturn, 1) := by decide +kernel
theorem d_O_isUpNode_0 : decode c_O_isUpNode 0 = .ok (.iload_n 1, 1) := by decide +kernel
theorem d_O_isUpNode_1 : decode c_O_isUpNode 1 = .ok (.invokestatic 39, 3) := by decide +kernel
theorem d_O_isUpNode_4 : decode c_O_isUpNode 4 = .ok (.ifCond .eq 19, 3) := by decide +kernel
theorem d_O_isUpNode_7 : decode c_O_isUpNode 7 = .ok (.aload_n 0, 1) := by decide +kernel
theorem d_O_isUpNode_8 : decode c_O_isUpNode 8 = .ok (.getfield 11, 3) := by decide +kernel
theorem d_O_isUpNode_11 : decode c_O_isUpNode 11 = .ok (.iload_n 1, 1) := by decide +kernel
theorem d_O_isUpNode_12 : decode c_O_isUpNode 12 = .ok (.aaload, 1) := by decide +kernel
theorem d_O_isUpNode_13 : decode c_O_isUpNode 13 = .ok (.invokevirtual 43, 3) := by decide +kernel
theorem d_O_isUpNode_16 : decode c_O_isUpNode 16 = .ok (.ifCond .eq 7, 3) := by decide +kernel
theorem d_O_isUpNode_19 : decode c_O_isUpNode 19 = .ok (.iconst 1, 1) := by decide +kernel
theorem d_O_isUpNode_20 : decode c_O_isUpNode 20 = .ok (.goto 4, 3) := by decide +kernel
theorem d_O_isUpNode_23 : decode c_O_isUpNode 23 = .ok (.iconst 0, 1) := by decide +kernel
theorem d_O_isUpNode_24 : decode c_O_isUpNode 24 = .ok (.ireturn, 1) := by decide +kernel
theorem d_O_isIn_0 : decode c_O_isIn 0 = .ok (.iload_n 0, 1) := by decide +kernel
theorem d_O_isIn_1 : decode c_O_isIn 1 = .ok (.iconst 1, 1) := by decide +kernel
theorem d_O_isIn_2 : decode c_O_isIn 2 = .ok (.iload_n 1, 1) := by decide +kernel
theorem d_O_isIn_3 : decode c_O_isIn 3 = .ok (.ishl, 1) := by decide +kernel
theorem d_O_isIn_4 : decode c_O_isIn 4 = .ok (.iand, 1) := by decide +kernel
theorem d_O_isIn_5 : decode c_O_isIn 5 = .ok (.ifCond .eq 7, 3) := by decide +kernel
theorem d_O_isIn_8 : decode c_O_isIn 8 = .ok (.iconst 1, 1) := by decide +kernel
theorem d_O_isIn_9 : decode c_O_isIn 9 = .ok (.goto 4, 3) := by decide +kernel
theorem d_O_isIn_12 : decode c_O_isIn 12 = .ok (.iconst 0, 1) := by decide +kernel
theorem d_O_isIn_13 : decode c_O_isIn 13 = .ok (.ireturn, 1) := by decide +kernel
theorem d_O_hearEachOther_0 : decode c_O_hearEachOther 0 = .ok (.aload_n 0, 1) := by decide +kernel
theorem d_O_hearEachOther_1 : decode c_O_hearEachOther 1 = .ok (.invokevirtual 43, 3) := by decide +kernel
theorem d_O_hearEachOther_4 : decode c_O_hearEachOther 4 = .ok (.ifCond .eq 29, 3) := by decide +kernel
theorem d_O_hearEachOther_7 : decode c_O_hearEachOther 7 = .ok (.aload_n 0, 1) := by decide +kernel
theorem d_O_hearEachOther_8 : decode c_O_hearEachOther 8 = .ok (.getfield 60, 3) := by decide +kernel
theorem d_O_hearEachOther_11 : decode c_O_hearEachOther 11 = .ok (.aload_n 1, 1) := by decide +kernel
theorem d_O_hearEachOther_12 : decode c_O_hearEachOther 12 = .ok (.getfield 60, 3) := by decide +kernel
theorem d_O_hearEachOther_15 : decode c_O_hearEachOther 15 = .ok (.if_acmp .ne 18, 3) := by decide +kernel
theorem d_O_hearEachOther_18 : decode c_O_hearEachOther 18 = .ok (.aload_n 0, 1) := by decide +kernel
theorem d_O_hearEachOther_19 : decode c_O_hearEachOther 19 = .ok (.getfield 96, 3) := by decide +kernel
theorem d_O_hearEachOther_22 : decode c_O_hearEachOther 22 = .ok (.aload_n 1, 1) := by decide +kernel
theorem d_O_hearEachOther_23 : decode c_O_hearEachOther 23 = .ok (.getfield 96, 3) := by decide +kernel
theorem d_O_hearEachOther_26 : decode c_O_hearEachOther 26 = .ok (.if_icmp .ne 7, 3) := by decide +kernel
theorem d_O_hearEachOther_29 : decode c_O_hearEachOther 29 = .ok (.iconst 1, 1) := by decide +kernel
theorem d_O_hearEachOther_30 : decode c_O_hearEachOther 30 = .ok (.goto 4, 3) := by decide +kernel
theorem d_O_hearEachOther_33 : decode c_O_hearEachOther 33 = .ok (.iconst 0, 1) := by decide +kernel
theorem d_O_hearEachOther_34 : decode c_O_hearEachOther 34 = .ok (.ireturn, 1) := by decide +kernel
theorem d_O_broadcastRequests_0 : decode c_O_broadcastRequests 0 = .ok (.iconst 0, 1) := by decide +kernel
theorem d_O_broadcastRequests_1 : decode c_O_broadcastRequests 1 = .ok (.istore_n 3, 1) := by decide +kernel
theorem d_O_broadcastRequests_2 : decode c_O_broadcastRequests 2 = .ok (.iconst 1, 1) := by decide +kernel
theorem d_O_broadcastRequests_3 : decode c_O_broadcastRequests 3 = .ok (.istore 4, 2) := by decide +kernel
theorem d_O_broadcastRequests_5 : decode c_O_broadcastRequests 5 = .ok (.iload 4, 2) := by decide +kernel
theorem d_O_broadcastRequests_7 : decode c_O_broadcastRequests 7 = .ok (.bipush 48, 2) := by decide +kernel
theorem d_O_broadcastRequests_9 : decode c_O_broadcastRequests 9 = .ok (.if_icmp .gt 43, 3) := by decide +kernel
theorem d_O_broadcastRequests_12 : decode c_O_broadcastRequests 12 = .ok (.aload_n 2, 1) := by decide +kernel
theorem d_O_broadcastRequests_13 : decode c_O_broadcastRequests 13 = .ok (.iload 4, 2) := by decide +kernel
theorem d_O_broadcastRequests_15 : decode c_O_broadcastRequests 15 = .ok (.invokevirtual 150, 3) := by decide +kernel
theorem d_O_broadcastRequests_18 : decode c_O_broadcastRequests 18 = .ok (.ifCond .eq 28, 3) := by decide +kernel
theorem d_O_broadcastRequests_21 : decode c_O_broadcastRequests 21 = .ok (.aload_n 1, 1) := by decide +kernel
theorem d_O_broadcastRequests_22 : decode c_O_broadcastRequests 22 = .ok (.iload 4, 2) := by decide +kernel
theorem d_O_broadcastRequests_24 : decode c_O_broadcastRequests 24 = .ok (.invokevirtual 153, 3) := by decide +kernel
theorem d_O_broadcastRequests_27 : decode c_O_broadcastRequests 27 = .ok (.ifCond .eq 19, 3) := by decide +kernel
theorem d_O_broadcastRequests_30 : decode c_O_broadcastRequests 30 = .ok (.aload_n 2, 1) := by decide +kernel
theorem d_O_broadcastRequests_31 : decode c_O_broadcastRequests 31 = .ok (.iload 4, 2) := by decide +kernel
theorem d_O_broadcastRequests_33 : decode c_O_broadcastRequests 33 = .ok (.invokevirtual 156, 3) := by decide +kernel
theorem d_O_broadcastRequests_36 : decode c_O_broadcastRequests 36 = .ok (.aload_n 0, 1) := by decide +kernel
theorem d_O_broadcastRequests_37 : decode c_O_broadcastRequests 37 = .ok (.aload_n 1, 1) := by decide +kernel
theorem d_O_broadcastRequests_38 : decode c_O_broadcastRequests 38 = .ok (.iload 4, 2) := by decide +kernel
theorem d_O_broadcastRequests_40 : decode c_O_broadcastRequests 40 = .ok (.invokevirtual 159, 3) := by decide +kernel
theorem d_O_broadcastRequests_43 : decode c_O_broadcastRequests 43 = .ok (.iinc 3 1, 3) := by decide +kernel
theorem d_O_broadcastRequests_46 : decode c_O_broadcastRequests 46 = .ok (.iinc 4 1, 3) := by decide +kernel
theorem d_O_broadcastRequests_49 : decode c_O_broadcastRequests 49 = .ok (.goto (-44), 3) := by decide +kernel
theorem d_O_broadcastRequests_52 : decode c_O_broadcastRequests 52 = .ok (.iload_n 3, 1) := by decide +kernel
theorem d_O_broadcastRequests_53 : decode c_O_broadcastRequests 53 = .ok (.ireturn, 1) := by decide +kernel
theorem d_O_broadcastNew_0 : decode c_O_broadcastNew 0 = .ok (.iconst 0, 1) := by decide +kernel
theorem d_O_broadcastNew_1 : decode c_O_broadcastNew 1 = .ok (.istore_n 3, 1) := by decide +kernel
theorem d_O_broadcastNew_2 : decode c_O_broadcastNew 2 = .ok (.iload_n 3, 1) := by decide +kernel
theorem d_O_broadcastNew_3 : decode c_O_broadcastNew 3 = .ok (.iconst 2, 1) := by decide +kernel
theorem d_O_broadcastNew_4 : decode c_O_broadcastNew 4 = .ok (.if_icmp .ge 83, 3) := by decide +kernel
theorem d_O_broadcastNew_7 : decode c_O_broadcastNew 7 = .ok (.aload_n 1, 1) := by decide +kernel
theorem d_O_broadcastNew_8 : decode c_O_broadcastNew 8 = .ok (.getfield 50, 3) := by decide +kernel
theorem d_O_broadcastNew_11 : decode c_O_broadcastNew 11 = .ok (.ifCond .le 76, 3) := by decide +kernel
theorem d_O_broadcastNew_14 : decode c_O_broadcastNew 14 = .ok (.aload_n 2, 1) := by decide +kernel
theorem d_O_broadcastNew_15 : decode c_O_broadcastNew 15 = .ok (.getfield 124, 3) := by decide +kernel
theorem d_O_broadcastNew_18 : decode c_O_broadcastNew 18 = .ok (.bipush 48, 2) := by decide +kernel
theorem d_O_broadcastNew_20 : decode c_O_broadcastNew 20 = .ok (.if_icmp .ge 67, 3) := by decide +kernel
theorem d_O_broadcastNew_23 : decode c_O_broadcastNew 23 = .ok (.aload_n 1, 1) := by decide +kernel
theorem d_O_broadcastNew_24 : decode c_O_broadcastNew 24 = .ok (.invokevirtual 163, 3) := by decide +kernel
theorem d_O_broadcastNew_27 : decode c_O_broadcastNew 27 = .ok (.istore 4, 2) := by decide +kernel
theorem d_O_broadcastNew_29 : decode c_O_broadcastNew 29 = .ok (.aload_n 2, 1) := by decide +kernel
theorem d_O_broadcastNew_30 : decode c_O_broadcastNew 30 = .ok (.dup, 1) := by decide +kernel
theorem d_O_broadcastNew_31 : decode c_O_broadcastNew 31 = .ok (.getfield 124, 3) := by decide +kernel
theorem d_O_broadcastNew_34 : decode c_O_broadcastNew 34 = .ok (.iconst 1, 1) := by decide +kernel
theorem d_O_broadcastNew_35 : decode c_O_broadcastNew 35 = .ok (.iadd, 1) := by decide +kernel
theorem d_O_broadcastNew_36 : decode c_O_broadcastNew 36 = .ok (.putfield 124, 3) := by decide +kernel
theorem d_O_broadcastNew_39 : decode c_O_broadcastNew 39 = .ok (.aload_n 2, 1) := by decide +kernel
theorem d_O_broadcastNew_40 : decode c_O_broadcastNew 40 = .ok (.getfield 166, 3) := by decide +kernel
theorem d_O_broadcastNew_43 : decode c_O_broadcastNew 43 = .ok (.aload_n 2, 1) := by decide +kernel
theorem d_O_broadcastNew_44 : decode c_O_broadcastNew 44 = .ok (.getfield 124, 3) := by decide +kernel
theorem d_O_broadcastNew_47 : decode c_O_broadcastNew 47 = .ok (.iload 4, 2) := by decide +kernel
theorem d_O_broadcastNew_49 : decode c_O_broadcastNew 49 = .ok (.iastore, 1) := by decide +kernel
theorem d_O_broadcastNew_50 : decode c_O_broadcastNew 50 = .ok (.aload_n 0, 1) := by decide +kernel
theorem d_O_broadcastNew_51 : decode c_O_broadcastNew 51 = .ok (.getfield 28, 3) := by decide +kernel
theorem d_O_broadcastNew_54 : decode c_O_broadcastNew 54 = .ok (.getfield 147, 3) := by decide +kernel
theorem d_O_broadcastNew_57 : decode c_O_broadcastNew 57 = .ok (.iload 4, 2) := by decide +kernel
theorem d_O_broadcastNew_59 : decode c_O_broadcastNew 59 = .ok (.bipush 64, 2) := by decide +kernel
theorem d_O_broadcastNew_61 : decode c_O_broadcastNew 61 = .ok (.aload_n 2, 1) := by decide +kernel
theorem d_O_broadcastNew_62 : decode c_O_broadcastNew 62 = .ok (.getfield 118, 3) := by decide +kernel
theorem d_O_broadcastNew_65 : decode c_O_broadcastNew 65 = .ok (.imul, 1) := by decide +kernel
theorem d_O_broadcastNew_66 : decode c_O_broadcastNew 66 = .ok (.aload_n 2, 1) := by decide +kernel
theorem d_O_broadcastNew_67 : decode c_O_broadcastNew 67 = .ok (.getfield 124, 3) := by decide +kernel
theorem d_O_broadcastNew_70 : decode c_O_broadcastNew 70 = .ok (.iadd, 1) := by decide +kernel
theorem d_O_broadcastNew_71 : decode c_O_broadcastNew 71 = .ok (.iastore, 1) := by decide +kernel
theorem d_O_broadcastNew_72 : decode c_O_broadcastNew 72 = .ok (.aload_n 0, 1) := by decide +kernel
theorem d_O_broadcastNew_73 : decode c_O_broadcastNew 73 = .ok (.aload_n 1, 1) := by decide +kernel
theorem d_O_broadcastNew_74 : decode c_O_broadcastNew 74 = .ok (.aload_n 2, 1) := by decide +kernel
theorem d_O_broadcastNew_75 : decode c_O_broadcastNew 75 = .ok (.getfield 124, 3) := by decide +kernel
theorem d_O_broadcastNew_78 : decode c_O_broadcastNew 78 = .ok (.invokevirtual 159, 3) := by decide +kernel
theorem d_O_broadcastNew_81 : decode c_O_broadcastNew 81 = .ok (.iinc 3 1, 3) := by decide +kernel
theorem d_O_broadcastNew_84 : decode c_O_broadcastNew 84 = .ok (.goto (-82), 3) := by decide +kernel
theorem d_O_broadcastNew_87 : decode c_O_broadcastNew 87 = .ok (.iload_n 3, 1) := by decide +kernel
theorem d_O_broadcastNew_88 : decode c_O_broadcastNew 88 = .ok (.ireturn, 1) := by decide +kernel
theorem d_O_broadcast_0 : decode c_O_broadcast 0 = .ok (.aload_n 1, 1) := by decide +kernel
theorem d_O_broadcast_1 : decode c_O_broadcast 1 = .ok (.iload_n 2, 1) := by decide +kernel
theorem d_O_broadcast_2 : decode c_O_broadcast 2 = .ok (.invokevirtual 169, 3) := by decide +kernel
theorem d_O_broadcast_5 : decode c_O_broadcast 5 = .ok (.aload_n 0, 1) := by decide +kernel
theorem d_O_broadcast_6 : decode c_O_broadcast 6 = .ok (.getfield 11, 3) := by decide +kernel
theorem d_O_broadcast_9 : decode c_O_broadcast 9 = .ok (.astore_n 3, 1) := by decide +kernel
theorem d_O_broadcast_10 : decode c_O_broadcast 10 = .ok (.aload_n 3, 1) := by decide +kernel
theorem d_O_broadcast_11 : decode c_O_broadcast 11 = .ok (.arraylength, 1) := by decide +kernel
theorem d_O_broadcast_12 : decode c_O_broadcast 12 = .ok (.istore 4, 2) := by decide +kernel
theorem d_O_broadcast_14 : decode c_O_broadcast 14 = .ok (.iconst 0, 1) := by decide +kernel
theorem d_O_broadcast_15 : decode c_O_broadcast 15 = .ok (.istore 5, 2) := by decide +kernel
theorem d_O_broadcast_17 : decode c_O_broadcast 17 = .ok (.iload 5, 2) := by decide +kernel
theorem d_O_broadcast_19 : decode c_O_broadcast 19 = .ok (.iload 4, 2) := by decide +kernel
theorem d_O_broadcast_21 : decode c_O_broadcast 21 = .ok (.if_icmp .ge 36, 3) := by decide +kernel
theorem d_O_broadcast_24 : decode c_O_broadcast 24 = .ok (.aload_n 3, 1) := by decide +kernel
theorem d_O_broadcast_25 : decode c_O_broadcast 25 = .ok (.iload 5, 2) := by decide +kernel
theorem d_O_broadcast_27 : decode c_O_broadcast 27 = .ok (.aaload, 1) := by decide +kernel
theorem d_O_broadcast_28 : decode c_O_broadcast 28 = .ok (.astore 6, 2) := by decide +kernel
theorem d_O_broadcast_30 : decode c_O_broadcast 30 = .ok (.aload 6, 2) := by decide +kernel
theorem d_O_broadcast_32 : decode c_O_broadcast 32 = .ok (.aload_n 1, 1) := by decide +kernel
theorem d_O_broadcast_33 : decode c_O_broadcast 33 = .ok (.if_acmp .eq 18, 3) := by decide +kernel
theorem d_O_broadcast_36 : decode c_O_broadcast 36 = .ok (.aload_n 1, 1) := by decide +kernel
theorem d_O_broadcast_37 : decode c_O_broadcast 37 = .ok (.aload 6, 2) := by decide +kernel
theorem d_O_broadcast_39 : decode c_O_broadcast 39 = .ok (.invokestatic 172, 3) := by decide +kernel
theorem d_O_broadcast_42 : decode c_O_broadcast 42 = .ok (.ifCond .eq 9, 3) := by decide +kernel
theorem d_O_broadcast_45 : decode c_O_broadcast 45 = .ok (.aload 6, 2) := by decide +kernel
theorem d_O_broadcast_47 : decode c_O_broadcast 47 = .ok (.iload_n 2, 1) := by decide +kernel
theorem d_O_broadcast_48 : decode c_O_broadcast 48 = .ok (.invokevirtual 176, 3) := by decide +kernel
theorem d_O_broadcast_51 : decode c_O_broadcast 51 = .ok (.iinc 5 1, 3) := by decide +kernel
theorem d_O_broadcast_54 : decode c_O_broadcast 54 = .ok (.goto (-37), 3) := by decide +kernel
theorem d_O_broadcast_57 : decode c_O_broadcast 57 = .ok (.return_, 1) := by decide +kernel
theorem d_O_deliverInRing_0 : decode c_O_deliverInRing 0 = .ok (.aload_n 0, 1) := by decide +kernel
theorem d_O_deliverInRing_1 : decode c_O_deliverInRing 1 = .ok (.getfield 11, 3) := by decide +kernel
theorem d_O_deliverInRing_4 : decode c_O_deliverInRing 4 = .ok (.astore_n 2, 1) := by decide +kernel
theorem d_O_deliverInRing_5 : decode c_O_deliverInRing 5 = .ok (.aload_n 2, 1) := by decide +kernel
theorem d_O_deliverInRing_6 : decode c_O_deliverInRing 6 = .ok (.arraylength, 1) := by decide +kernel
theorem d_O_deliverInRing_7 : decode c_O_deliverInRing 7 = .ok (.istore_n 3, 1) := by decide +kernel
theorem d_O_deliverInRing_8 : decode c_O_deliverInRing 8 = .ok (.iconst 0, 1) := by decide +kernel
theorem d_O_deliverInRing_9 : decode c_O_deliverInRing 9 = .ok (.istore 4, 2) := by decide +kernel
theorem d_O_deliverInRing_11 : decode c_O_deliverInRing 11 = .ok (.iload 4, 2) := by decide +kernel
theorem d_O_deliverInRing_13 : decode c_O_deliverInRing 13 = .ok (.iload_n 3, 1) := by decide +kernel
theorem d_O_deliverInRing_14 : decode c_O_deliverInRing 14 = .ok (.if_icmp .ge 31, 3) := by decide +kernel
theorem d_O_deliverInRing_17 : decode c_O_deliverInRing 17 = .ok (.aload_n 2, 1) := by decide +kernel
theorem d_O_deliverInRing_18 : decode c_O_deliverInRing 18 = .ok (.iload 4, 2) := by decide +kernel
theorem d_O_deliverInRing_20 : decode c_O_deliverInRing 20 = .ok (.aaload, 1) := by decide +kernel
theorem d_O_deliverInRing_21 : decode c_O_deliverInRing 21 = .ok (.astore 5, 2) := by decide +kernel
theorem d_O_deliverInRing_23 : decode c_O_deliverInRing 23 = .ok (.aload 5, 2) := by decide +kernel
theorem d_O_deliverInRing_25 : decode c_O_deliverInRing 25 = .ok (.getfield 60, 3) := by decide +kernel
theorem d_O_deliverInRing_28 : decode c_O_deliverInRing 28 = .ok (.aload_n 1, 1) := by decide +kernel
theorem d_O_deliverInRing_29 : decode c_O_deliverInRing 29 = .ok (.if_acmp .ne 10, 3) := by decide +kernel
theorem d_O_deliverInRing_32 : decode c_O_deliverInRing 32 = .ok (.aload_n 0, 1) := by decide +kernel
theorem d_O_deliverInRing_33 : decode c_O_deliverInRing 33 = .ok (.aload 5, 2) := by decide +kernel
theorem d_O_deliverInRing_35 : decode c_O_deliverInRing 35 = .ok (.aload_n 1, 1) := by decide +kernel
theorem d_O_deliverInRing_36 : decode c_O_deliverInRing 36 = .ok (.invokevirtual 179, 3) := by decide +kernel
theorem d_O_deliverInRing_39 : decode c_O_deliverInRing 39 = .ok (.iinc 4 1, 3) := by decide +kernel
theorem d_O_deliverInRing_42 : decode c_O_deliverInRing 42 = .ok (.goto (-31), 3) := by decide +kernel
theorem d_O_deliverInRing_45 : decode c_O_deliverInRing 45 = .ok (.return_, 1) := by decide +kernel
theorem d_O_deliverRegular_0 : decode c_O_deliverRegular 0 = .ok (.aload_n 1, 1) := by decide +kernel
theorem d_O_deliverRegular_1 : decode c_O_deliverRegular 1 = .ok (.getfield 182, 3) := by decide +kernel
theorem d_O_deliverRegular_4 : decode c_O_deliverRegular 4 = .ok (.iconst 1, 1) := by decide +kernel
theorem d_O_deliverRegular_5 : decode c_O_deliverRegular 5 = .ok (.iadd, 1) := by decide +kernel
theorem d_O_deliverRegular_6 : decode c_O_deliverRegular 6 = .ok (.istore_n 3, 1) := by decide +kernel
theorem d_O_deliverRegular_7 : decode c_O_deliverRegular 7 = .ok (.iload_n 3, 1) := by decide +kernel
theorem d_O_deliverRegular_8 : decode c_O_deliverRegular 8 = .ok (.bipush 48, 2) := by decide +kernel
theorem d_O_deliverRegular_10 : decode c_O_deliverRegular 10 = .ok (.if_icmp .gt 37, 3) := by decide +kernel
theorem d_O_deliverRegular_13 : decode c_O_deliverRegular 13 = .ok (.aload_n 0, 1) := by decide +kernel
theorem d_O_deliverRegular_14 : decode c_O_deliverRegular 14 = .ok (.aload_n 1, 1) := by decide +kernel
theorem d_O_deliverRegular_15 : decode c_O_deliverRegular 15 = .ok (.aload_n 2, 1) := by decide +kernel
theorem d_O_deliverRegular_16 : decode c_O_deliverRegular 16 = .ok (.iload_n 3, 1) := by decide +kernel
theorem d_O_deliverRegular_17 : decode c_O_deliverRegular 17 = .ok (.invokevirtual 185, 3) := by decide +kernel
theorem d_O_deliverRegular_20 : decode c_O_deliverRegular 20 = .ok (.ifCond .ne 4, 3) := by decide +kernel
theorem d_O_deliverRegular_23 : decode c_O_deliverRegular 23 = .ok (.return_, 1) := by decide +kernel
theorem d_O_deliverRegular_24 : decode c_O_deliverRegular 24 = .ok (.aload_n 1, 1) := by decide +kernel
theorem d_O_deliverRegular_25 : decode c_O_deliverRegular 25 = .ok (.iconst 2, 1) := by decide +kernel
theorem d_O_deliverRegular_26 : decode c_O_deliverRegular 26 = .ok (.aload_n 2, 1) := by decide +kernel
theorem d_O_deliverRegular_27 : decode c_O_deliverRegular 27 = .ok (.getfield 166, 3) := by decide +kernel
theorem d_O_deliverRegular_30 : decode c_O_deliverRegular 30 = .ok (.iload_n 3, 1) := by decide +kernel
theorem d_O_deliverRegular_31 : decode c_O_deliverRegular 31 = .ok (.iaload, 1) := by decide +kernel
theorem d_O_deliverRegular_32 : decode c_O_deliverRegular 32 = .ok (.imul, 1) := by decide +kernel
theorem d_O_deliverRegular_33 : decode c_O_deliverRegular 33 = .ok (.invokevirtual 189, 3) := by decide +kernel
theorem d_O_deliverRegular_36 : decode c_O_deliverRegular 36 = .ok (.aload_n 1, 1) := by decide +kernel
theorem d_O_deliverRegular_37 : decode c_O_deliverRegular 37 = .ok (.iload_n 3, 1) := by decide +kernel
theorem d_O_deliverRegular_38 : decode c_O_deliverRegular 38 = .ok (.putfield 182, 3) := by decide +kernel
theorem d_O_deliverRegular_41 : decode c_O_deliverRegular 41 = .ok (.iinc 3 1, 3) := by decide +kernel
theorem d_O_deliverRegular_44 : decode c_O_deliverRegular 44 = .ok (.goto (-37), 3) := by decide +kernel
theorem d_O_deliverRegular_47 : decode c_O_deliverRegular 47 = .ok (.return_, 1) := by decide +kernel
theorem d_O_isDeliverable_0 : decode c_O_isDeliverable 0 = .ok (.aload_n 1, 1) := by decide +kernel
theorem d_O_isDeliverable_1 : decode c_O_isDeliverable 1 = .ok (.iload_n 3, 1) := by decide +kernel
theorem d_O_isDeliverable_2 : decode c_O_isDeliverable 2 = .ok (.invokevirtual 153, 3) := by decide +kernel
theorem d_O_isDeliverable_5 : decode c_O_isDeliverable 5 = .ok (.ifCond .eq 32, 3) := by decide +kernel
theorem d_O_isDeliverable_8 : decode c_O_isDeliverable 8 = .ok (.iload_n 3, 1) := by decide +kernel
theorem d_O_isDeliverable_9 : decode c_O_isDeliverable 9 = .ok (.aload_n 1, 1) := by decide +kernel
theorem d_O_isDeliverable_10 : decode c_O_isDeliverable 10 = .ok (.getfield 82, 3) := by decide +kernel
theorem d_O_isDeliverable_13 : decode c_O_isDeliverable 13 = .ok (.if_icmp .le 20, 3) := by decide +kernel
theorem d_O_isDeliverable_16 : decode c_O_isDeliverable 16 = .ok (.aload_n 0, 1) := by decide +kernel
theorem d_O_isDeliverable_17 : decode c_O_isDeliverable 17 = .ok (.getfield 28, 3) := by decide +kernel
theorem d_O_isDeliverable_20 : decode c_O_isDeliverable 20 = .ok (.getfield 192, 3) := by decide +kernel
theorem d_O_isDeliverable_23 : decode c_O_isDeliverable 23 = .ok (.aload_n 2, 1) := by decide +kernel
theorem d_O_isDeliverable_24 : decode c_O_isDeliverable 24 = .ok (.getfield 166, 3) := by decide +kernel
theorem d_O_isDeliverable_27 : decode c_O_isDeliverable 27 = .ok (.iload_n 3, 1) := by decide +kernel
theorem d_O_isDeliverable_28 : decode c_O_isDeliverable 28 = .ok (.iaload, 1) := by decide +kernel
theorem d_O_isDeliverable_29 : decode c_O_isDeliverable 29 = .ok (.baload, 1) := by decide +kernel
theorem d_O_isDeliverable_30 : decode c_O_isDeliverable 30 = .ok (.ifCond .ne 7, 3) := by decide +kernel
theorem d_O_isDeliverable_33 : decode c_O_isDeliverable 33 = .ok (.iconst 1, 1) := by decide +kernel
theorem d_O_isDeliverable_34 : decode c_O_isDeliverable 34 = .ok (.goto 4, 3) := by decide +kernel
theorem d_O_isDeliverable_37 : decode c_O_isDeliverable 37 = .ok (.iconst 0, 1) := by decide +kernel
theorem d_O_isDeliverable_38 : decode c_O_isDeliverable 38 = .ok (.ireturn, 1) := by decide +kernel
theorem d_O_hasStranger_0 : decode c_O_hasStranger 0 = .ok (.aload_n 0, 1) := by decide +kernel
theorem d_O_hasStranger_1 : decode c_O_hasStranger 1 = .ok (.getfield 11, 3) := by decide +kernel
theorem d_O_hasStranger_4 : decode c_O_hasStranger 4 = .ok (.astore_n 2, 1) := by decide +kernel
theorem d_O_hasStranger_5 : decode c_O_hasStranger 5 = .ok (.aload_n 2, 1) := by decide +kernel
theorem d_O_hasStranger_6 : decode c_O_hasStranger 6 = .ok (.arraylength, 1) := by decide +kernel
theorem d_O_hasStranger_7 : decode c_O_hasStranger 7 = .ok (.istore_n 3, 1) := by decide +kernel
theorem d_O_hasStranger_8 : decode c_O_hasStranger 8 = .ok (.iconst 0, 1) := by decide +kernel
theorem d_O_hasStranger_9 : decode c_O_hasStranger 9 = .ok (.istore 4, 2) := by decide +kernel
theorem d_O_hasStranger_11 : decode c_O_hasStranger 11 = .ok (.iload 4, 2) := by decide +kernel
theorem d_O_hasStranger_13 : decode c_O_hasStranger 13 = .ok (.iload_n 3, 1) := by decide +kernel
theorem d_O_hasStranger_14 : decode c_O_hasStranger 14 = .ok (.if_icmp .ge 49, 3) := by decide +kernel
theorem d_O_hasStranger_17 : decode c_O_hasStranger 17 = .ok (.aload_n 2, 1) := by decide +kernel
theorem d_O_hasStranger_18 : decode c_O_hasStranger 18 = .ok (.iload 4, 2) := by decide +kernel
theorem d_O_hasStranger_20 : decode c_O_hasStranger 20 = .ok (.aaload, 1) := by decide +kernel
theorem d_O_hasStranger_21 : decode c_O_hasStranger 21 = .ok (.astore 5, 2) := by decide +kernel
theorem d_O_hasStranger_23 : decode c_O_hasStranger 23 = .ok (.aload 5, 2) := by decide +kernel
theorem d_O_hasStranger_25 : decode c_O_hasStranger 25 = .ok (.invokevirtual 43, 3) := by decide +kernel
theorem d_O_hasStranger_28 : decode c_O_hasStranger 28 = .ok (.ifCond .eq 29, 3) := by decide +kernel
theorem d_O_hasStranger_31 : decode c_O_hasStranger 31 = .ok (.aload 5, 2) := by decide +kernel
theorem d_O_hasStranger_33 : decode c_O_hasStranger 33 = .ok (.getfield 96, 3) := by decide +kernel
theorem d_O_hasStranger_36 : decode c_O_hasStranger 36 = .ok (.aload_n 1, 1) := by decide +kernel
theorem d_O_hasStranger_37 : decode c_O_hasStranger 37 = .ok (.getfield 96, 3) := by decide +kernel
theorem d_O_hasStranger_40 : decode c_O_hasStranger 40 = .ok (.if_icmp .ne 17, 3) := by decide +kernel
theorem d_O_hasStranger_43 : decode c_O_hasStranger 43 = .ok (.aload 5, 2) := by decide +kernel
theorem d_O_hasStranger_45 : decode c_O_hasStranger 45 = .ok (.getfield 60, 3) := by decide +kernel
theorem d_O_hasStranger_48 : decode c_O_hasStranger 48 = .ok (.aload_n 1, 1) := by decide +kernel
theorem d_O_hasStranger_49 : decode c_O_hasStranger 49 = .ok (.getfield 60, 3) := by decide +kernel
theorem d_O_hasStranger_52 : decode c_O_hasStranger 52 = .ok (.if_acmp .eq 5, 3) := by decide +kernel
theorem d_O_hasStranger_55 : decode c_O_hasStranger 55 = .ok (.iconst 1, 1) := by decide +kernel
theorem d_O_hasStranger_56 : decode c_O_hasStranger 56 = .ok (.ireturn, 1) := by decide +kernel
theorem d_O_hasStranger_57 : decode c_O_hasStranger 57 = .ok (.iinc 4 1, 3) := by decide +kernel
theorem d_O_hasStranger_60 : decode c_O_hasStranger 60 = .ok (.goto (-49), 3) := by decide +kernel
theorem d_O_hasStranger_63 : decode c_O_hasStranger 63 = .ok (.iconst 0, 1) := by decide +kernel
theorem d_O_hasStranger_64 : decode c_O_hasStranger 64 = .ok (.ireturn, 1) := by decide +kernel
theorem d_O_passToken_0 : decode c_O_passToken 0 = .ok (.aload_n 2, 1) := by decide +kernel
theorem d_O_passToken_1 : decode c_O_passToken 1 = .ok (.aload_n 1, 1) := by decide +kernel
theorem d_O_passToken_2 : decode c_O_passToken 2 = .ok (.getfield 196, 3) := by decide +kernel
theorem d_O_passToken_5 : decode c_O_passToken 5 = .ok (.invokevirtual 197, 3) := by decide +kernel
theorem d_O_passToken_8 : decode c_O_passToken 8 = .ok (.istore_n 3, 1) := by decide +kernel
theorem d_O_passToken_9 : decode c_O_passToken 9 = .ok (.aload_n 2, 1) := by decide +kernel
theorem d_O_passToken_10 : decode c_O_passToken 10 = .ok (.aload_n 1, 1) := by decide +kernel
theorem d_O_passToken_11 : decode c_O_passToken 11 = .ok (.aload_n 0, 1) := by decide +kernel
theorem d_O_passToken_12 : decode c_O_passToken 12 = .ok (.getfield 11, 3) := by decide +kernel
theorem d_O_passToken_15 : decode c_O_passToken 15 = .ok (.iload_n 3, 1) := by decide +kernel
theorem d_O_passToken_16 : decode c_O_passToken 16 = .ok (.aaload, 1) := by decide +kernel
theorem d_O_passToken_17 : decode c_O_passToken 17 = .ok (.invokestatic 172, 3) := by decide +kernel
theorem d_O_passToken_20 : decode c_O_passToken 20 = .ok (.ifCond .eq 7, 3) := by decide +kernel
theorem d_O_passToken_23 : decode c_O_passToken 23 = .ok (.iload_n 3, 1) := by decide +kernel
theorem d_O_passToken_24 : decode c_O_passToken 24 = .ok (.goto 4, 3) := by decide +kernel
theorem d_O_passToken_27 : decode c_O_passToken 27 = .ok (.iconst (-1), 1) := by decide +kernel
theorem d_O_passToken_28 : decode c_O_passToken 28 = .ok (.putfield 64, 3) := by decide +kernel
theorem d_O_passToken_31 : decode c_O_passToken 31 = .ok (.return_, 1) := by decide +kernel
theorem d_O_formAnew_0 : decode c_O_formAnew 0 = .ok (.aload_n 0, 1) := by decide +kernel
theorem d_O_formAnew_1 : decode c_O_formAnew 1 = .ok (.iload_n 1, 1) := by decide +kernel
theorem d_O_formAnew_2 : decode c_O_formAnew 2 = .ok (.invokevirtual 201, 3) := by decide +kernel
theorem d_O_formAnew_5 : decode c_O_formAnew 5 = .ok (.istore_n 2, 1) := by decide +kernel
theorem d_O_formAnew_6 : decode c_O_formAnew 6 = .ok (.aload_n 0, 1) := by decide +kernel
theorem d_O_formAnew_7 : decode c_O_formAnew 7 = .ok (.getfield 20, 3) := by decide +kernel
theorem d_O_formAnew_10 : decode c_O_formAnew 10 = .ok (.astore_n 3, 1) := by decide +kernel
theorem d_O_formAnew_11 : decode c_O_formAnew 11 = .ok (.aload_n 3, 1) := by decide +kernel
theorem d_O_formAnew_12 : decode c_O_formAnew 12 = .ok (.arraylength, 1) := by decide +kernel
theorem d_O_formAnew_13 : decode c_O_formAnew 13 = .ok (.istore 4, 2) := by decide +kernel
theorem d_O_formAnew_15 : decode c_O_formAnew 15 = .ok (.iconst 0, 1) := by decide +kernel
theorem d_O_formAnew_16 : decode c_O_formAnew 16 = .ok (.istore 5, 2) := by decide +kernel
theorem d_O_formAnew_18 : decode c_O_formAnew 18 = .ok (.iload 5, 2) := by decide +kernel
theorem d_O_formAnew_20 : decode c_O_formAnew 20 = .ok (.iload 4, 2) := by decide +kernel
theorem d_O_formAnew_22 : decode c_O_formAnew 22 = .ok (.if_icmp .ge 38, 3) := by decide +kernel
theorem d_O_formAnew_25 : decode c_O_formAnew 25 = .ok (.aload_n 3, 1) := by decide +kernel
theorem d_O_formAnew_26 : decode c_O_formAnew 26 = .ok (.iload 5, 2) := by decide +kernel
theorem d_O_formAnew_28 : decode c_O_formAnew 28 = .ok (.aaload, 1) := by decide +kernel
theorem d_O_formAnew_29 : decode c_O_formAnew 29 = .ok (.astore 6, 2) := by decide +kernel
theorem d_O_formAnew_31 : decode c_O_formAnew 31 = .ok (.aload_n 0, 1) := by decide +kernel
theorem d_O_formAnew_32 : decode c_O_formAnew 32 = .ok (.aload 6, 2) := by decide +kernel
theorem d_O_formAnew_34 : decode c_O_formAnew 34 = .ok (.invokevirtual 204, 3) := by decide +kernel
theorem d_O_formAnew_37 : decode c_O_formAnew 37 = .ok (.iload_n 2, 1) := by decide +kernel
theorem d_O_formAnew_38 : decode c_O_formAnew 38 = .ok (.iand, 1) := by decide +kernel
theorem d_O_formAnew_39 : decode c_O_formAnew 39 = .ok (.istore 7, 2) := by decide +kernel
theorem d_O_formAnew_41 : decode c_O_formAnew 41 = .ok (.iload 7, 2) := by decide +kernel
theorem d_O_formAnew_43 : decode c_O_formAnew 43 = .ok (.ifCond .eq 11, 3) := by decide +kernel
theorem d_O_formAnew_46 : decode c_O_formAnew 46 = .ok (.aload_n 0, 1) := by decide +kernel
theorem d_O_formAnew_47 : decode c_O_formAnew 47 = .ok (.aload 6, 2) := by decide +kernel
theorem d_O_formAnew_49 : decode c_O_formAnew 49 = .ok (.iload 7, 2) := by decide +kernel
theorem d_O_formAnew_51 : decode c_O_formAnew 51 = .ok (.invokevirtual 208, 3) := by decide +kernel
theorem d_O_formAnew_54 : decode c_O_formAnew 54 = .ok (.iinc 5 1, 3) := by decide +kernel
theorem d_O_formAnew_57 : decode c_O_formAnew 57 = .ok (.goto (-39), 3) := by decide +kernel
theorem d_O_formAnew_60 : decode c_O_formAnew 60 = .ok (.aload_n 0, 1) := by decide +kernel
theorem d_O_formAnew_61 : decode c_O_formAnew 61 = .ok (.iload_n 2, 1) := by decide +kernel
theorem d_O_formAnew_62 : decode c_O_formAnew 62 = .ok (.invokevirtual 36, 3) := by decide +kernel
theorem d_O_formAnew_65 : decode c_O_formAnew 65 = .ok (.return_, 1) := by decide +kernel
theorem d_O_deliverLeftOver_0 : decode c_O_deliverLeftOver 0 = .ok (.lconst 0, 1) := by decide +kernel
theorem d_O_deliverLeftOver_1 : decode c_O_deliverLeftOver 1 = .ok (.lstore_n 3, 1) := by decide +kernel
theorem d_O_deliverLeftOver_2 : decode c_O_deliverLeftOver 2 = .ok (.iconst 0, 1) := by decide +kernel
theorem d_O_deliverLeftOver_3 : decode c_O_deliverLeftOver 3 = .ok (.istore 5, 2) := by decide +kernel
theorem d_O_deliverLeftOver_5 : decode c_O_deliverLeftOver 5 = .ok (.iconst 0, 1) := by decide +kernel
theorem d_O_deliverLeftOver_6 : decode c_O_deliverLeftOver 6 = .ok (.istore 6, 2) := by decide +kernel
theorem d_O_deliverLeftOver_8 : decode c_O_deliverLeftOver 8 = .ok (.iload 6, 2) := by decide +kernel
theorem d_O_deliverLeftOver_10 : decode c_O_deliverLeftOver 10 = .ok (.iconst 5, 1) := by decide +kernel
theorem d_O_deliverLeftOver_11 : decode c_O_deliverLeftOver 11 = .ok (.if_icmp .ge 48, 3) := by decide +kernel
theorem d_O_deliverLeftOver_14 : decode c_O_deliverLeftOver 14 = .ok (.iload_n 2, 1) := by decide +kernel
theorem d_O_deliverLeftOver_15 : decode c_O_deliverLeftOver 15 = .ok (.iload 6, 2) := by decide +kernel
theorem d_O_deliverLeftOver_17 : decode c_O_deliverLeftOver 17 = .ok (.invokestatic 212, 3) := by decide +kernel
theorem d_O_deliverLeftOver_20 : decode c_O_deliverLeftOver 20 = .ok (.ifCond .eq 33, 3) := by decide +kernel
theorem d_O_deliverLeftOver_23 : decode c_O_deliverLeftOver 23 = .ok (.lload_n 3, 1) := by decide +kernel
theorem d_O_deliverLeftOver_24 : decode c_O_deliverLeftOver 24 = .ok (.aload_n 0, 1) := by decide +kernel
theorem d_O_deliverLeftOver_25 : decode c_O_deliverLeftOver 25 = .ok (.getfield 11, 3) := by decide +kernel
theorem d_O_deliverLeftOver_28 : decode c_O_deliverLeftOver 28 = .ok (.iload 6, 2) := by decide +kernel
theorem d_O_deliverLeftOver_30 : decode c_O_deliverLeftOver 30 = .ok (.aaload, 1) := by decide +kernel
theorem d_O_deliverLeftOver_31 : decode c_O_deliverLeftOver 31 = .ok (.getfield 216, 3) := by decide +kernel
theorem d_O_deliverLeftOver_34 : decode c_O_deliverLeftOver 34 = .ok (.lor, 1) := by decide +kernel
theorem d_O_deliverLeftOver_35 : decode c_O_deliverLeftOver 35 = .ok (.lstore_n 3, 1) := by decide +kernel
theorem d_O_deliverLeftOver_36 : decode c_O_deliverLeftOver 36 = .ok (.iload 5, 2) := by decide +kernel
theorem d_O_deliverLeftOver_38 : decode c_O_deliverLeftOver 38 = .ok (.aload_n 0, 1) := by decide +kernel
theorem d_O_deliverLeftOver_39 : decode c_O_deliverLeftOver 39 = .ok (.getfield 11, 3) := by decide +kernel
theorem d_O_deliverLeftOver_42 : decode c_O_deliverLeftOver 42 = .ok (.iload 6, 2) := by decide +kernel
theorem d_O_deliverLeftOver_44 : decode c_O_deliverLeftOver 44 = .ok (.aaload, 1) := by decide +kernel
theorem d_O_deliverLeftOver_45 : decode c_O_deliverLeftOver 45 = .ok (.getfield 82, 3) := by decide +kernel
theorem d_O_deliverLeftOver_48 : decode c_O_deliverLeftOver 48 = .ok (.invokestatic 219, 3) := by decide +kernel
theorem d_O_deliverLeftOver_51 : decode c_O_deliverLeftOver 51 = .ok (.istore 5, 2) := by decide +kernel
theorem d_O_deliverLeftOver_53 : decode c_O_deliverLeftOver 53 = .ok (.iinc 6 1, 3) := by decide +kernel
theorem d_O_deliverLeftOver_56 : decode c_O_deliverLeftOver 56 = .ok (.goto (-48), 3) := by decide +kernel
theorem d_O_deliverLeftOver_59 : decode c_O_deliverLeftOver 59 = .ok (.iconst 0, 1) := by decide +kernel
theorem d_O_deliverLeftOver_60 : decode c_O_deliverLeftOver 60 = .ok (.istore 6, 2) := by decide +kernel
theorem d_O_deliverLeftOver_62 : decode c_O_deliverLeftOver 62 = .ok (.iload 6, 2) := by decide +kernel
theorem d_O_deliverLeftOver_64 : decode c_O_deliverLeftOver 64 = .ok (.iconst 5, 1) := by decide +kernel
theorem d_O_deliverLeftOver_65 : decode c_O_deliverLeftOver 65 = .ok (.if_icmp .ge 66, 3) := by decide +kernel
theorem d_O_deliverLeftOver_68 : decode c_O_deliverLeftOver 68 = .ok (.iload_n 2, 1) := by decide +kernel
theorem d_O_deliverLeftOver_69 : decode c_O_deliverLeftOver 69 = .ok (.iload 6, 2) := by decide +kernel
theorem d_O_deliverLeftOver_71 : decode c_O_deliverLeftOver 71 = .ok (.invokestatic 212, 3) := by decide +kernel
theorem d_O_deliverLeftOver_74 : decode c_O_deliverLeftOver 74 = .ok (.ifCond .eq 51, 3) := by decide +kernel
theorem d_O_deliverLeftOver_77 : decode c_O_deliverLeftOver 77 = .ok (.aload_n 0, 1) := by decide +kernel
theorem d_O_deliverLeftOver_78 : decode c_O_deliverLeftOver 78 = .ok (.getfield 11, 3) := by decide +kernel
theorem d_O_deliverLeftOver_81 : decode c_O_deliverLeftOver 81 = .ok (.iload 6, 2) := by decide +kernel
theorem d_O_deliverLeftOver_83 : decode c_O_deliverLeftOver 83 = .ok (.aaload, 1) := by decide +kernel
theorem d_O_deliverLeftOver_84 : decode c_O_deliverLeftOver 84 = .ok (.lload_n 3, 1) := by decide +kernel
theorem d_O_deliverLeftOver_85 : decode c_O_deliverLeftOver 85 = .ok (.putfield 216, 3) := by decide +kernel
theorem d_O_deliverLeftOver_88 : decode c_O_deliverLeftOver 88 = .ok (.aload_n 0, 1) := by decide +kernel
theorem d_O_deliverLeftOver_89 : decode c_O_deliverLeftOver 89 = .ok (.getfield 11, 3) := by decide +kernel
theorem d_O_deliverLeftOver_92 : decode c_O_deliverLeftOver 92 = .ok (.iload 6, 2) := by decide +kernel
theorem d_O_deliverLeftOver_94 : decode c_O_deliverLeftOver 94 = .ok (.aaload, 1) := by decide +kernel
theorem d_O_deliverLeftOver_95 : decode c_O_deliverLeftOver 95 = .ok (.iload 5, 2) := by decide +kernel
theorem d_O_deliverLeftOver_97 : decode c_O_deliverLeftOver 97 = .ok (.putfield 82, 3) := by decide +kernel
theorem d_O_deliverLeftOver_100 : decode c_O_deliverLeftOver 100 = .ok (.aload_n 0, 1) := by decide +kernel
theorem d_O_deliverLeftOver_101 : decode c_O_deliverLeftOver 101 = .ok (.aload_n 0, 1) := by decide +kernel
theorem d_O_deliverLeftOver_102 : decode c_O_deliverLeftOver 102 = .ok (.getfield 11, 3) := by decide +kernel
theorem d_O_deliverLeftOver_105 : decode c_O_deliverLeftOver 105 = .ok (.iload 6, 2) := by decide +kernel
theorem d_O_deliverLeftOver_107 : decode c_O_deliverLeftOver 107 = .ok (.aaload, 1) := by decide +kernel
theorem d_O_deliverLeftOver_108 : decode c_O_deliverLeftOver 108 = .ok (.aload_n 1, 1) := by decide +kernel
theorem d_O_deliverLeftOver_109 : decode c_O_deliverLeftOver 109 = .ok (.invokevirtual 179, 3) := by decide +kernel
theorem d_O_deliverLeftOver_112 : decode c_O_deliverLeftOver 112 = .ok (.aload_n 0, 1) := by decide +kernel
theorem d_O_deliverLeftOver_113 : decode c_O_deliverLeftOver 113 = .ok (.aload_n 0, 1) := by decide +kernel
theorem d_O_deliverLeftOver_114 : decode c_O_deliverLeftOver 114 = .ok (.getfield 11, 3) := by decide +kernel
theorem d_O_deliverLeftOver_117 : decode c_O_deliverLeftOver 117 = .ok (.iload 6, 2) := by decide +kernel
theorem d_O_deliverLeftOver_119 : decode c_O_deliverLeftOver 119 = .ok (.aaload, 1) := by decide +kernel
theorem d_O_deliverLeftOver_120 : decode c_O_deliverLeftOver 120 = .ok (.aload_n 1, 1) := by decide +kernel
theorem d_O_deliverLeftOver_121 : decode c_O_deliverLeftOver 121 = .ok (.iload_n 2, 1) := by decide +kernel
theorem d_O_deliverLeftOver_122 : decode c_O_deliverLeftOver 122 = .ok (.invokevirtual 225, 3) := by decide +kernel
theorem d_O_deliverLeftOver_125 : decode c_O_deliverLeftOver 125 = .ok (.iinc 6 1, 3) := by decide +kernel
theorem d_O_deliverLeftOver_128 : decode c_O_deliverLeftOver 128 = .ok (.goto (-66), 3) := by decide +kernel
theorem d_O_deliverLeftOver_131 : decode c_O_deliverLeftOver 131 = .ok (.return_, 1) := by decide +kernel
theorem d_O_deliverTransitional_0 : decode c_O_deliverTransitional 0 = .ok (.iconst 0, 1) := by decide +kernel
theorem d_O_deliverTransitional_1 : decode c_O_deliverTransitional 1 = .ok (.istore 4, 2) := by decide +kernel
theorem d_O_deliverTransitional_3 : decode c_O_deliverTransitional 3 = .ok (.aload_n 1, 1) := by decide +kernel
theorem d_O_deliverTransitional_4 : decode c_O_deliverTransitional 4 = .ok (.getfield 182, 3) := by decide +kernel
theorem d_O_deliverTransitional_7 : decode c_O_deliverTransitional 7 = .ok (.iconst 1, 1) := by decide +kernel
theorem d_O_deliverTransitional_8 : decode c_O_deliverTransitional 8 = .ok (.iadd, 1) := by decide +kernel
theorem d_O_deliverTransitional_9 : decode c_O_deliverTransitional 9 = .ok (.istore 5, 2) := by decide +kernel
theorem d_O_deliverTransitional_11 : decode c_O_deliverTransitional 11 = .ok (.iload 5, 2) := by decide +kernel
theorem d_O_deliverTransitional_13 : decode c_O_deliverTransitional 13 = .ok (.bipush 48, 2) := by decide +kernel
theorem d_O_deliverTransitional_15 : decode c_O_deliverTransitional 15 = .ok (.if_icmp .gt 65, 3) := by decide +kernel
theorem d_O_deliverTransitional_18 : decode c_O_deliverTransitional 18 = .ok (.aload_n 1, 1) := by decide +kernel
theorem d_O_deliverTransitional_19 : decode c_O_deliverTransitional 19 = .ok (.iload 5, 2) := by decide +kernel
theorem d_O_deliverTransitional_21 : decode c_O_deliverTransitional 21 = .ok (.invokevirtual 153, 3) := by decide +kernel
theorem d_O_deliverTransitional_24 : decode c_O_deliverTransitional 24 = .ok (.ifCond .ne 9, 3) := by decide +kernel
theorem d_O_deliverTransitional_27 : decode c_O_deliverTransitional 27 = .ok (.iconst 1, 1) := by decide +kernel
theorem d_O_deliverTransitional_28 : decode c_O_deliverTransitional 28 = .ok (.istore 4, 2) := by decide +kernel
theorem d_O_deliverTransitional_30 : decode c_O_deliverTransitional 30 = .ok (.goto 44, 3) := by decide +kernel
theorem d_O_deliverTransitional_33 : decode c_O_deliverTransitional 33 = .ok (.aload_n 2, 1) := by decide +kernel
theorem d_O_deliverTransitional_34 : decode c_O_deliverTransitional 34 = .ok (.getfield 166, 3) := by decide +kernel
theorem d_O_deliverTransitional_37 : decode c_O_deliverTransitional 37 = .ok (.iload 5, 2) := by decide +kernel
theorem d_O_deliverTransitional_39 : decode c_O_deliverTransitional 39 = .ok (.iaload, 1) := by decide +kernel
theorem d_O_deliverTransitional_40 : decode c_O_deliverTransitional 40 = .ok (.istore 6, 2) := by decide +kernel
theorem d_O_deliverTransitional_42 : decode c_O_deliverTransitional 42 = .ok (.iload 4, 2) := by decide +kernel
theorem d_O_deliverTransitional_44 : decode c_O_deliverTransitional 44 = .ok (.ifCond .eq 20, 3) := by decide +kernel
theorem d_O_deliverTransitional_47 : decode c_O_deliverTransitional 47 = .ok (.iload_n 3, 1) := by decide +kernel
end
section
/-! decode rows, by program out of the listing -/
theorem d_O_deliverTransitional_48 : decode c_O_deliverTransitional 48 = .ok (.aload_n 0, 1) := by decide +kernel
theorem d_O_deliverTransitional_49 : decode c_O_deliverTransitional 49 = .ok (.getfield 28, 3) := by decide +kernel
theorem d_O_deliverTransitional_52 : decode c_O_deliverTransitional 52 = .ok (.getfield 229, 3) := by decide +kernel
theorem d_O_deliverTransitional_55 : decode c_O_deliverTransitional 55 = .ok (.iload 6, 2) := by decide +kernel
theorem d_O_deliverTransitional_57 : decode c_O_deliverTransitional 57 = .ok (.iaload, 1) := by decide +kernel
theorem d_O_deliverTransitional_58 : decode c_O_deliverTransitional 58 = .ok (.invokestatic 212, 3) := by decide +kernel
theorem d_O_deliverTransitional_61 : decode c_O_deliverTransitional 61 = .ok (.ifCond .eq 13, 3) := by decide +kernel
theorem d_O_deliverTransitional_64 : decode c_O_deliverTransitional 64 = .ok (.aload_n 1, 1) := by decide +kernel
theorem d_O_deliverTransitional_65 : decode c_O_deliverTransitional 65 = .ok (.iconst 2, 1) := by decide +kernel
theorem d_O_deliverTransitional_66 : decode c_O_deliverTransitional 66 = .ok (.iload 6, 2) := by decide +kernel
theorem d_O_deliverTransitional_68 : decode c_O_deliverTransitional 68 = .ok (.imul, 1) := by decide +kernel
theorem d_O_deliverTransitional_69 : decode c_O_deliverTransitional 69 = .ok (.iconst 1, 1) := by decide +kernel
theorem d_O_deliverTransitional_70 : decode c_O_deliverTransitional 70 = .ok (.iadd, 1) := by decide +kernel
theorem d_O_deliverTransitional_71 : decode c_O_deliverTransitional 71 = .ok (.invokevirtual 189, 3) := by decide +kernel
theorem d_O_deliverTransitional_74 : decode c_O_deliverTransitional 74 = .ok (.iinc 5 1, 3) := by decide +kernel
theorem d_O_deliverTransitional_77 : decode c_O_deliverTransitional 77 = .ok (.goto (-66), 3) := by decide +kernel
theorem d_O_deliverTransitional_80 : decode c_O_deliverTransitional 80 = .ok (.return_, 1) := by decide +kernel
theorem d_O_enterNewRing_0 : decode c_O_enterNewRing 0 = .ok (.aload_n 0, 1) := by decide +kernel
theorem d_O_enterNewRing_1 : decode c_O_enterNewRing 1 = .ok (.invokevirtual 232, 3) := by decide +kernel
theorem d_O_enterNewRing_4 : decode c_O_enterNewRing 4 = .ok (.astore_n 2, 1) := by decide +kernel
theorem d_O_enterNewRing_5 : decode c_O_enterNewRing 5 = .ok (.aload_n 0, 1) := by decide +kernel
theorem d_O_enterNewRing_6 : decode c_O_enterNewRing 6 = .ok (.dup, 1) := by decide +kernel
theorem d_O_enterNewRing_7 : decode c_O_enterNewRing 7 = .ok (.getfield 32, 3) := by decide +kernel
theorem d_O_enterNewRing_10 : decode c_O_enterNewRing 10 = .ok (.iconst 1, 1) := by decide +kernel
theorem d_O_enterNewRing_11 : decode c_O_enterNewRing 11 = .ok (.iadd, 1) := by decide +kernel
theorem d_O_enterNewRing_12 : decode c_O_enterNewRing 12 = .ok (.putfield 32, 3) := by decide +kernel
theorem d_O_enterNewRing_15 : decode c_O_enterNewRing 15 = .ok (.aload_n 2, 1) := by decide +kernel
theorem d_O_enterNewRing_16 : decode c_O_enterNewRing 16 = .ok (.aload_n 0, 1) := by decide +kernel
theorem d_O_enterNewRing_17 : decode c_O_enterNewRing 17 = .ok (.getfield 32, 3) := by decide +kernel
theorem d_O_enterNewRing_20 : decode c_O_enterNewRing 20 = .ok (.iload_n 1, 1) := by decide +kernel
theorem d_O_enterNewRing_21 : decode c_O_enterNewRing 21 = .ok (.invokevirtual 236, 3) := by decide +kernel
theorem d_O_enterNewRing_24 : decode c_O_enterNewRing 24 = .ok (.iconst 0, 1) := by decide +kernel
theorem d_O_enterNewRing_25 : decode c_O_enterNewRing 25 = .ok (.istore_n 3, 1) := by decide +kernel
theorem d_O_enterNewRing_26 : decode c_O_enterNewRing 26 = .ok (.iload_n 3, 1) := by decide +kernel
theorem d_O_enterNewRing_27 : decode c_O_enterNewRing 27 = .ok (.iconst 5, 1) := by decide +kernel
theorem d_O_enterNewRing_28 : decode c_O_enterNewRing 28 = .ok (.if_icmp .ge 27, 3) := by decide +kernel
theorem d_O_enterNewRing_31 : decode c_O_enterNewRing 31 = .ok (.iload_n 1, 1) := by decide +kernel
theorem d_O_enterNewRing_32 : decode c_O_enterNewRing 32 = .ok (.iload_n 3, 1) := by decide +kernel
theorem d_O_enterNewRing_33 : decode c_O_enterNewRing 33 = .ok (.invokestatic 212, 3) := by decide +kernel
theorem d_O_enterNewRing_36 : decode c_O_enterNewRing 36 = .ok (.ifCond .eq 13, 3) := by decide +kernel
theorem d_O_enterNewRing_39 : decode c_O_enterNewRing 39 = .ok (.aload_n 0, 1) := by decide +kernel
theorem d_O_enterNewRing_40 : decode c_O_enterNewRing 40 = .ok (.getfield 11, 3) := by decide +kernel
theorem d_O_enterNewRing_43 : decode c_O_enterNewRing 43 = .ok (.iload_n 3, 1) := by decide +kernel
theorem d_O_enterNewRing_44 : decode c_O_enterNewRing 44 = .ok (.aaload, 1) := by decide +kernel
theorem d_O_enterNewRing_45 : decode c_O_enterNewRing 45 = .ok (.aload_n 2, 1) := by decide +kernel
theorem d_O_enterNewRing_46 : decode c_O_enterNewRing 46 = .ok (.invokevirtual 240, 3) := by decide +kernel
theorem d_O_enterNewRing_49 : decode c_O_enterNewRing 49 = .ok (.iinc 3 1, 3) := by decide +kernel
theorem d_O_enterNewRing_52 : decode c_O_enterNewRing 52 = .ok (.goto (-26), 3) := by decide +kernel
theorem d_O_enterNewRing_55 : decode c_O_enterNewRing 55 = .ok (.return_, 1) := by decide +kernel
theorem d_O_unusedRing_0 : decode c_O_unusedRing 0 = .ok (.iconst 0, 1) := by decide +kernel
theorem d_O_unusedRing_1 : decode c_O_unusedRing 1 = .ok (.istore_n 1, 1) := by decide +kernel
theorem d_O_unusedRing_2 : decode c_O_unusedRing 2 = .ok (.iload_n 1, 1) := by decide +kernel
theorem d_O_unusedRing_3 : decode c_O_unusedRing 3 = .ok (.iconst 5, 1) := by decide +kernel
theorem d_O_unusedRing_4 : decode c_O_unusedRing 4 = .ok (.if_icmp .ge 29, 3) := by decide +kernel
theorem d_O_unusedRing_7 : decode c_O_unusedRing 7 = .ok (.aload_n 0, 1) := by decide +kernel
theorem d_O_unusedRing_8 : decode c_O_unusedRing 8 = .ok (.aload_n 0, 1) := by decide +kernel
theorem d_O_unusedRing_9 : decode c_O_unusedRing 9 = .ok (.getfield 20, 3) := by decide +kernel
theorem d_O_unusedRing_12 : decode c_O_unusedRing 12 = .ok (.iload_n 1, 1) := by decide +kernel
theorem d_O_unusedRing_13 : decode c_O_unusedRing 13 = .ok (.aaload, 1) := by decide +kernel
theorem d_O_unusedRing_14 : decode c_O_unusedRing 14 = .ok (.invokevirtual 204, 3) := by decide +kernel
theorem d_O_unusedRing_17 : decode c_O_unusedRing 17 = .ok (.ifCond .ne 10, 3) := by decide +kernel
theorem d_O_unusedRing_20 : decode c_O_unusedRing 20 = .ok (.aload_n 0, 1) := by decide +kernel
theorem d_O_unusedRing_21 : decode c_O_unusedRing 21 = .ok (.getfield 20, 3) := by decide +kernel
theorem d_O_unusedRing_24 : decode c_O_unusedRing 24 = .ok (.iload_n 1, 1) := by decide +kernel
theorem d_O_unusedRing_25 : decode c_O_unusedRing 25 = .ok (.aaload, 1) := by decide +kernel
theorem d_O_unusedRing_26 : decode c_O_unusedRing 26 = .ok (.areturn, 1) := by decide +kernel
theorem d_O_unusedRing_27 : decode c_O_unusedRing 27 = .ok (.iinc 1 1, 3) := by decide +kernel
theorem d_O_unusedRing_30 : decode c_O_unusedRing 30 = .ok (.goto (-28), 3) := by decide +kernel
theorem d_O_unusedRing_33 : decode c_O_unusedRing 33 = .ok (.aload_n 0, 1) := by decide +kernel
theorem d_O_unusedRing_34 : decode c_O_unusedRing 34 = .ok (.getfield 20, 3) := by decide +kernel
theorem d_O_unusedRing_37 : decode c_O_unusedRing 37 = .ok (.iconst 5, 1) := by decide +kernel
theorem d_O_unusedRing_38 : decode c_O_unusedRing 38 = .ok (.aaload, 1) := by decide +kernel
theorem d_O_unusedRing_39 : decode c_O_unusedRing 39 = .ok (.areturn, 1) := by decide +kernel
theorem d_O_nodesOf_0 : decode c_O_nodesOf 0 = .ok (.iconst 0, 1) := by decide +kernel
theorem d_O_nodesOf_1 : decode c_O_nodesOf 1 = .ok (.istore_n 2, 1) := by decide +kernel
theorem d_O_nodesOf_2 : decode c_O_nodesOf 2 = .ok (.iconst 0, 1) := by decide +kernel
theorem d_O_nodesOf_3 : decode c_O_nodesOf 3 = .ok (.istore_n 3, 1) := by decide +kernel
theorem d_O_nodesOf_4 : decode c_O_nodesOf 4 = .ok (.iload_n 3, 1) := by decide +kernel
theorem d_O_nodesOf_5 : decode c_O_nodesOf 5 = .ok (.iconst 5, 1) := by decide +kernel
theorem d_O_nodesOf_6 : decode c_O_nodesOf 6 = .ok (.if_icmp .ge 28, 3) := by decide +kernel
theorem d_O_nodesOf_9 : decode c_O_nodesOf 9 = .ok (.aload_n 0, 1) := by decide +kernel
theorem d_O_nodesOf_10 : decode c_O_nodesOf 10 = .ok (.getfield 11, 3) := by decide +kernel
theorem d_O_nodesOf_13 : decode c_O_nodesOf 13 = .ok (.iload_n 3, 1) := by decide +kernel
theorem d_O_nodesOf_14 : decode c_O_nodesOf 14 = .ok (.aaload, 1) := by decide +kernel
theorem d_O_nodesOf_15 : decode c_O_nodesOf 15 = .ok (.getfield 60, 3) := by decide +kernel
theorem d_O_nodesOf_18 : decode c_O_nodesOf 18 = .ok (.aload_n 1, 1) := by decide +kernel
theorem d_O_nodesOf_19 : decode c_O_nodesOf 19 = .ok (.if_acmp .ne 9, 3) := by decide +kernel
theorem d_O_nodesOf_22 : decode c_O_nodesOf 22 = .ok (.iload_n 2, 1) := by decide +kernel
theorem d_O_nodesOf_23 : decode c_O_nodesOf 23 = .ok (.iconst 1, 1) := by decide +kernel
theorem d_O_nodesOf_24 : decode c_O_nodesOf 24 = .ok (.iload_n 3, 1) := by decide +kernel
theorem d_O_nodesOf_25 : decode c_O_nodesOf 25 = .ok (.ishl, 1) := by decide +kernel
theorem d_O_nodesOf_26 : decode c_O_nodesOf 26 = .ok (.ior, 1) := by decide +kernel
theorem d_O_nodesOf_27 : decode c_O_nodesOf 27 = .ok (.istore_n 2, 1) := by decide +kernel
theorem d_O_nodesOf_28 : decode c_O_nodesOf 28 = .ok (.iinc 3 1, 3) := by decide +kernel
theorem d_O_nodesOf_31 : decode c_O_nodesOf 31 = .ok (.goto (-27), 3) := by decide +kernel
theorem d_O_nodesOf_34 : decode c_O_nodesOf 34 = .ok (.iload_n 2, 1) := by decide +kernel
theorem d_O_nodesOf_35 : decode c_O_nodesOf 35 = .ok (.ireturn, 1) := by decide +kernel
theorem d_O_upNodesIn_0 : decode c_O_upNodesIn 0 = .ok (.iconst 0, 1) := by decide +kernel
theorem d_O_upNodesIn_1 : decode c_O_upNodesIn 1 = .ok (.istore_n 2, 1) := by decide +kernel
theorem d_O_upNodesIn_2 : decode c_O_upNodesIn 2 = .ok (.iconst 0, 1) := by decide +kernel
theorem d_O_upNodesIn_3 : decode c_O_upNodesIn 3 = .ok (.istore_n 3, 1) := by decide +kernel
theorem d_O_upNodesIn_4 : decode c_O_upNodesIn 4 = .ok (.iload_n 3, 1) := by decide +kernel
theorem d_O_upNodesIn_5 : decode c_O_upNodesIn 5 = .ok (.iconst 5, 1) := by decide +kernel
theorem d_O_upNodesIn_6 : decode c_O_upNodesIn 6 = .ok (.if_icmp .ge 40, 3) := by decide +kernel
theorem d_O_upNodesIn_9 : decode c_O_upNodesIn 9 = .ok (.aload_n 0, 1) := by decide +kernel
theorem d_O_upNodesIn_10 : decode c_O_upNodesIn 10 = .ok (.getfield 11, 3) := by decide +kernel
theorem d_O_upNodesIn_13 : decode c_O_upNodesIn 13 = .ok (.iload_n 3, 1) := by decide +kernel
theorem d_O_upNodesIn_14 : decode c_O_upNodesIn 14 = .ok (.aaload, 1) := by decide +kernel
theorem d_O_upNodesIn_15 : decode c_O_upNodesIn 15 = .ok (.invokevirtual 43, 3) := by decide +kernel
theorem d_O_upNodesIn_18 : decode c_O_upNodesIn 18 = .ok (.ifCond .eq 22, 3) := by decide +kernel
theorem d_O_upNodesIn_21 : decode c_O_upNodesIn 21 = .ok (.aload_n 0, 1) := by decide +kernel
theorem d_O_upNodesIn_22 : decode c_O_upNodesIn 22 = .ok (.getfield 11, 3) := by decide +kernel
theorem d_O_upNodesIn_25 : decode c_O_upNodesIn 25 = .ok (.iload_n 3, 1) := by decide +kernel
theorem d_O_upNodesIn_26 : decode c_O_upNodesIn 26 = .ok (.aaload, 1) := by decide +kernel
theorem d_O_upNodesIn_27 : decode c_O_upNodesIn 27 = .ok (.getfield 96, 3) := by decide +kernel
theorem d_O_upNodesIn_30 : decode c_O_upNodesIn 30 = .ok (.iload_n 1, 1) := by decide +kernel
theorem d_O_upNodesIn_31 : decode c_O_upNodesIn 31 = .ok (.if_icmp .ne 9, 3) := by decide +kernel
theorem d_O_upNodesIn_34 : decode c_O_upNodesIn 34 = .ok (.iload_n 2, 1) := by decide +kernel
theorem d_O_upNodesIn_35 : decode c_O_upNodesIn 35 = .ok (.iconst 1, 1) := by decide +kernel
theorem d_O_upNodesIn_36 : decode c_O_upNodesIn 36 = .ok (.iload_n 3, 1) := by decide +kernel
theorem d_O_upNodesIn_37 : decode c_O_upNodesIn 37 = .ok (.ishl, 1) := by decide +kernel
theorem d_O_upNodesIn_38 : decode c_O_upNodesIn 38 = .ok (.ior, 1) := by decide +kernel
theorem d_O_upNodesIn_39 : decode c_O_upNodesIn 39 = .ok (.istore_n 2, 1) := by decide +kernel
theorem d_O_upNodesIn_40 : decode c_O_upNodesIn 40 = .ok (.iinc 3 1, 3) := by decide +kernel
theorem d_O_upNodesIn_43 : decode c_O_upNodesIn 43 = .ok (.goto (-39), 3) := by decide +kernel
theorem d_O_upNodesIn_46 : decode c_O_upNodesIn 46 = .ok (.iload_n 2, 1) := by decide +kernel
theorem d_O_upNodesIn_47 : decode c_O_upNodesIn 47 = .ok (.ireturn, 1) := by decide +kernel
theorem d_Y_init_0 : decode c_Y_init 0 = .ok (.aload_n 0, 1) := by decide +kernel
theorem d_Y_init_1 : decode c_Y_init 1 = .ok (.invokespecial 1, 3) := by decide +kernel
theorem d_Y_init_4 : decode c_Y_init 4 = .ok (.aload_n 0, 1) := by decide +kernel
theorem d_Y_init_5 : decode c_Y_init 5 = .ok (.iconst 5, 1) := by decide +kernel
theorem d_Y_init_6 : decode c_Y_init 6 = .ok (.newarray .boolean, 2) := by decide +kernel
theorem d_Y_init_8 : decode c_Y_init 8 = .ok (.putfield 7, 3) := by decide +kernel
theorem d_Y_init_11 : decode c_Y_init 11 = .ok (.aload_n 0, 1) := by decide +kernel
theorem d_Y_init_12 : decode c_Y_init 12 = .ok (.iconst 5, 1) := by decide +kernel
theorem d_Y_init_13 : decode c_Y_init 13 = .ok (.newarray .int, 2) := by decide +kernel
theorem d_Y_init_15 : decode c_Y_init 15 = .ok (.putfield 13, 3) := by decide +kernel
theorem d_Y_init_18 : decode c_Y_init 18 = .ok (.aload_n 0, 1) := by decide +kernel
theorem d_Y_init_19 : decode c_Y_init 19 = .ok (.iconst 5, 1) := by decide +kernel
theorem d_Y_init_20 : decode c_Y_init 20 = .ok (.newarray .int, 2) := by decide +kernel
theorem d_Y_init_22 : decode c_Y_init 22 = .ok (.putfield 17, 3) := by decide +kernel
theorem d_Y_init_25 : decode c_Y_init 25 = .ok (.aload_n 0, 1) := by decide +kernel
theorem d_Y_init_26 : decode c_Y_init 26 = .ok (.iconst 5, 1) := by decide +kernel
theorem d_Y_init_27 : decode c_Y_init 27 = .ok (.newarray .int, 2) := by decide +kernel
theorem d_Y_init_29 : decode c_Y_init 29 = .ok (.putfield 20, 3) := by decide +kernel
theorem d_Y_init_32 : decode c_Y_init 32 = .ok (.aload_n 0, 1) := by decide +kernel
theorem d_Y_init_33 : decode c_Y_init 33 = .ok (.iconst 5, 1) := by decide +kernel
theorem d_Y_init_34 : decode c_Y_init 34 = .ok (.newarray .int, 2) := by decide +kernel
theorem d_Y_init_36 : decode c_Y_init 36 = .ok (.putfield 23, 3) := by decide +kernel
theorem d_Y_init_39 : decode c_Y_init 39 = .ok (.aload_n 0, 1) := by decide +kernel
theorem d_Y_init_40 : decode c_Y_init 40 = .ok (.iconst 5, 1) := by decide +kernel
theorem d_Y_init_41 : decode c_Y_init 41 = .ok (.newarray .int, 2) := by decide +kernel
theorem d_Y_init_43 : decode c_Y_init 43 = .ok (.putfield 26, 3) := by decide +kernel
theorem d_Y_init_46 : decode c_Y_init 46 = .ok (.aload_n 0, 1) := by decide +kernel
theorem d_Y_init_47 : decode c_Y_init 47 = .ok (.iconst 5, 1) := by decide +kernel
theorem d_Y_init_48 : decode c_Y_init 48 = .ok (.newarray .int, 2) := by decide +kernel
theorem d_Y_init_50 : decode c_Y_init 50 = .ok (.putfield 29, 3) := by decide +kernel
theorem d_Y_init_53 : decode c_Y_init 53 = .ok (.aload_n 0, 1) := by decide +kernel
theorem d_Y_init_54 : decode c_Y_init 54 = .ok (.sipush 245, 3) := by decide +kernel
theorem d_Y_init_57 : decode c_Y_init 57 = .ok (.newarray .boolean, 2) := by decide +kernel
theorem d_Y_init_59 : decode c_Y_init 59 = .ok (.putfield 32, 3) := by decide +kernel
theorem d_Y_init_62 : decode c_Y_init 62 = .ok (.aload_n 0, 1) := by decide +kernel
theorem d_Y_init_63 : decode c_Y_init 63 = .ok (.sipush 240, 3) := by decide +kernel
theorem d_Y_init_66 : decode c_Y_init 66 = .ok (.newarray .int, 2) := by decide +kernel
theorem d_Y_init_68 : decode c_Y_init 68 = .ok (.putfield 35, 3) := by decide +kernel
theorem d_Y_init_71 : decode c_Y_init 71 = .ok (.aload_n 0, 1) := by decide +kernel
theorem d_Y_init_72 : decode c_Y_init 72 = .ok (.iconst 5, 1) := by decide +kernel
theorem d_Y_init_73 : decode c_Y_init 73 = .ok (.newarray .int, 2) := by decide +kernel
theorem d_Y_init_75 : decode c_Y_init 75 = .ok (.putfield 38, 3) := by decide +kernel
theorem d_Y_init_78 : decode c_Y_init 78 = .ok (.aload_n 0, 1) := by decide +kernel
theorem d_Y_init_79 : decode c_Y_init 79 = .ok (.bipush 49, 2) := by decide +kernel
theorem d_Y_init_81 : decode c_Y_init 81 = .ok (.newarray .int, 2) := by decide +kernel
theorem d_Y_init_83 : decode c_Y_init 83 = .ok (.putfield 41, 3) := by decide +kernel
theorem d_Y_init_86 : decode c_Y_init 86 = .ok (.aload_n 0, 1) := by decide +kernel
theorem d_Y_init_87 : decode c_Y_init 87 = .ok (.bipush 49, 2) := by decide +kernel
theorem d_Y_init_89 : decode c_Y_init 89 = .ok (.newarray .boolean, 2) := by decide +kernel
theorem d_Y_init_91 : decode c_Y_init 91 = .ok (.putfield 44, 3) := by decide +kernel
theorem d_Y_init_94 : decode c_Y_init 94 = .ok (.aload_n 0, 1) := by decide +kernel
theorem d_Y_init_95 : decode c_Y_init 95 = .ok (.bipush 49, 2) := by decide +kernel
theorem d_Y_init_97 : decode c_Y_init 97 = .ok (.newarray .boolean, 2) := by decide +kernel
theorem d_Y_init_99 : decode c_Y_init 99 = .ok (.putfield 47, 3) := by decide +kernel
theorem d_Y_init_102 : decode c_Y_init 102 = .ok (.aload_n 0, 1) := by decide +kernel
theorem d_Y_init_103 : decode c_Y_init 103 = .ok (.bipush 49, 2) := by decide +kernel
theorem d_Y_init_105 : decode c_Y_init 105 = .ok (.newarray .int, 2) := by decide +kernel
theorem d_Y_init_107 : decode c_Y_init 107 = .ok (.putfield 50, 3) := by decide +kernel
theorem d_Y_init_110 : decode c_Y_init 110 = .ok (.aload_n 0, 1) := by decide +kernel
theorem d_Y_init_111 : decode c_Y_init 111 = .ok (.bipush 49, 2) := by decide +kernel
theorem d_Y_init_113 : decode c_Y_init 113 = .ok (.newarray .int, 2) := by decide +kernel
theorem d_Y_init_115 : decode c_Y_init 115 = .ok (.putfield 53, 3) := by decide +kernel
theorem d_Y_init_118 : decode c_Y_init 118 = .ok (.aload_n 0, 1) := by decide +kernel
theorem d_Y_init_119 : decode c_Y_init 119 = .ok (.sipush 520, 3) := by decide +kernel
theorem d_Y_init_122 : decode c_Y_init 122 = .ok (.newarray .int, 2) := by decide +kernel
theorem d_Y_init_124 : decode c_Y_init 124 = .ok (.putfield 56, 3) := by decide +kernel
theorem d_Y_init_127 : decode c_Y_init 127 = .ok (.aload_n 0, 1) := by decide +kernel
theorem d_Y_init_128 : decode c_Y_init 128 = .ok (.sipush 520, 3) := by decide +kernel
theorem d_Y_init_131 : decode c_Y_init 131 = .ok (.newarray .int, 2) := by decide +kernel
theorem d_Y_init_133 : decode c_Y_init 133 = .ok (.putfield 59, 3) := by decide +kernel
theorem d_Y_init_136 : decode c_Y_init 136 = .ok (.aload_n 0, 1) := by decide +kernel
theorem d_Y_init_137 : decode c_Y_init 137 = .ok (.sipush 520, 3) := by decide +kernel
theorem d_Y_init_140 : decode c_Y_init 140 = .ok (.newarray .int, 2) := by decide +kernel
theorem d_Y_init_142 : decode c_Y_init 142 = .ok (.putfield 62, 3) := by decide +kernel
theorem d_Y_init_145 : decode c_Y_init 145 = .ok (.aload_n 0, 1) := by decide +kernel
theorem d_Y_init_146 : decode c_Y_init 146 = .ok (.sipush 2600, 3) := by decide +kernel
theorem d_Y_init_149 : decode c_Y_init 149 = .ok (.newarray .int, 2) := by decide +kernel
theorem d_Y_init_151 : decode c_Y_init 151 = .ok (.putfield 65, 3) := by decide +kernel
theorem d_Y_init_154 : decode c_Y_init 154 = .ok (.aload_n 0, 1) := by decide +kernel
theorem d_Y_init_155 : decode c_Y_init 155 = .ok (.sipush 520, 3) := by decide +kernel
theorem d_Y_init_158 : decode c_Y_init 158 = .ok (.newarray .long, 2) := by decide +kernel
theorem d_Y_init_160 : decode c_Y_init 160 = .ok (.putfield 68, 3) := by decide +kernel
theorem d_Y_init_163 : decode c_Y_init 163 = .ok (.aload_n 0, 1) := by decide +kernel
theorem d_Y_init_164 : decode c_Y_init 164 = .ok (.iconst 1, 1) := by decide +kernel
theorem d_Y_init_165 : decode c_Y_init 165 = .ok (.putfield 72, 3) := by decide +kernel
theorem d_Y_init_168 : decode c_Y_init 168 = .ok (.aload_n 0, 1) := by decide +kernel
theorem d_Y_init_169 : decode c_Y_init 169 = .ok (.getfield 62, 3) := by decide +kernel
theorem d_Y_init_172 : decode c_Y_init 172 = .ok (.iconst 1, 1) := by decide +kernel
theorem d_Y_init_173 : decode c_Y_init 173 = .ok (.bipush 31, 2) := by decide +kernel
theorem d_Y_init_175 : decode c_Y_init 175 = .ok (.iastore, 1) := by decide +kernel
theorem d_Y_init_176 : decode c_Y_init 176 = .ok (.iconst 0, 1) := by decide +kernel
theorem d_Y_init_177 : decode c_Y_init 177 = .ok (.istore_n 1, 1) := by decide +kernel
theorem d_Y_init_178 : decode c_Y_init 178 = .ok (.iload_n 1, 1) := by decide +kernel
theorem d_Y_init_179 : decode c_Y_init 179 = .ok (.iconst 5, 1) := by decide +kernel
theorem d_Y_init_180 : decode c_Y_init 180 = .ok (.if_icmp .ge 23, 3) := by decide +kernel
theorem d_Y_init_183 : decode c_Y_init 183 = .ok (.aload_n 0, 1) := by decide +kernel
theorem d_Y_init_184 : decode c_Y_init 184 = .ok (.getfield 7, 3) := by decide +kernel
theorem d_Y_init_187 : decode c_Y_init 187 = .ok (.iload_n 1, 1) := by decide +kernel
theorem d_Y_init_188 : decode c_Y_init 188 = .ok (.iconst 1, 1) := by decide +kernel
theorem d_Y_init_189 : decode c_Y_init 189 = .ok (.bastore, 1) := by decide +kernel
theorem d_Y_init_190 : decode c_Y_init 190 = .ok (.aload_n 0, 1) := by decide +kernel
theorem d_Y_init_191 : decode c_Y_init 191 = .ok (.getfield 17, 3) := by decide +kernel
theorem d_Y_init_194 : decode c_Y_init 194 = .ok (.iload_n 1, 1) := by decide +kernel
theorem d_Y_init_195 : decode c_Y_init 195 = .ok (.iconst 1, 1) := by decide +kernel
theorem d_Y_init_196 : decode c_Y_init 196 = .ok (.iastore, 1) := by decide +kernel
theorem d_Y_init_197 : decode c_Y_init 197 = .ok (.iinc 1 1, 3) := by decide +kernel
theorem d_Y_init_200 : decode c_Y_init 200 = .ok (.goto (-22), 3) := by decide +kernel
theorem d_Y_init_203 : decode c_Y_init 203 = .ok (.return_, 1) := by decide +kernel
theorem d_Y_outside_0 : decode c_Y_outside 0 = .ok (.iload_n 0, 1) := by decide +kernel
theorem d_Y_outside_1 : decode c_Y_outside 1 = .ok (.ifCond .lt 8, 3) := by decide +kernel
theorem d_Y_outside_4 : decode c_Y_outside 4 = .ok (.iload_n 0, 1) := by decide +kernel
theorem d_Y_outside_5 : decode c_Y_outside 5 = .ok (.iconst 4, 1) := by decide +kernel
theorem d_Y_outside_6 : decode c_Y_outside 6 = .ok (.if_icmp .le 7, 3) := by decide +kernel
theorem d_Y_outside_9 : decode c_Y_outside 9 = .ok (.iconst 1, 1) := by decide +kernel
theorem d_Y_outside_10 : decode c_Y_outside 10 = .ok (.goto 4, 3) := by decide +kernel
theorem d_Y_outside_13 : decode c_Y_outside 13 = .ok (.iconst 0, 1) := by decide +kernel
theorem d_Y_outside_14 : decode c_Y_outside 14 = .ok (.ireturn, 1) := by decide +kernel
theorem d_Y_refuse_0 : decode c_Y_refuse 0 = .ok (.iload_n 1, 1) := by decide +kernel
theorem d_Y_refuse_1 : decode c_Y_refuse 1 = .ok (.invokestatic 76, 3) := by decide +kernel
theorem d_Y_refuse_4 : decode c_Y_refuse 4 = .ok (.ifCond .eq 8, 3) := by decide +kernel
theorem d_Y_refuse_7 : decode c_Y_refuse 7 = .ok (.bipush (-3), 2) := by decide +kernel
theorem d_Y_refuse_9 : decode c_Y_refuse 9 = .ok (.goto 18, 3) := by decide +kernel
theorem d_Y_refuse_12 : decode c_Y_refuse 12 = .ok (.aload_n 0, 1) := by decide +kernel
theorem d_Y_refuse_13 : decode c_Y_refuse 13 = .ok (.getfield 7, 3) := by decide +kernel
theorem d_Y_refuse_16 : decode c_Y_refuse 16 = .ok (.iload_n 1, 1) := by decide +kernel
theorem d_Y_refuse_17 : decode c_Y_refuse 17 = .ok (.baload, 1) := by decide +kernel
theorem d_Y_refuse_18 : decode c_Y_refuse 18 = .ok (.ifCond .eq 7, 3) := by decide +kernel
theorem d_Y_refuse_21 : decode c_Y_refuse 21 = .ok (.iconst 0, 1) := by decide +kernel
theorem d_Y_refuse_22 : decode c_Y_refuse 22 = .ok (.goto 5, 3) := by decide +kernel
theorem d_Y_refuse_25 : decode c_Y_refuse 25 = .ok (.bipush (-2), 2) := by decide +kernel
theorem d_Y_refuse_27 : decode c_Y_refuse 27 = .ok (.ireturn, 1) := by decide +kernel
theorem d_Y_hears_0 : decode c_Y_hears 0 = .ok (.aload_n 0, 1) := by decide +kernel
theorem d_Y_hears_1 : decode c_Y_hears 1 = .ok (.getfield 7, 3) := by decide +kernel
theorem d_Y_hears_4 : decode c_Y_hears 4 = .ok (.iload_n 1, 1) := by decide +kernel
theorem d_Y_hears_5 : decode c_Y_hears 5 = .ok (.baload, 1) := by decide +kernel
theorem d_Y_hears_6 : decode c_Y_hears 6 = .ok (.ifCond .eq 46, 3) := by decide +kernel
theorem d_Y_hears_9 : decode c_Y_hears 9 = .ok (.aload_n 0, 1) := by decide +kernel
theorem d_Y_hears_10 : decode c_Y_hears 10 = .ok (.getfield 7, 3) := by decide +kernel
theorem d_Y_hears_13 : decode c_Y_hears 13 = .ok (.iload_n 2, 1) := by decide +kernel
theorem d_Y_hears_14 : decode c_Y_hears 14 = .ok (.baload, 1) := by decide +kernel
theorem d_Y_hears_15 : decode c_Y_hears 15 = .ok (.ifCond .eq 37, 3) := by decide +kernel
theorem d_Y_hears_18 : decode c_Y_hears 18 = .ok (.aload_n 0, 1) := by decide +kernel
theorem d_Y_hears_19 : decode c_Y_hears 19 = .ok (.getfield 13, 3) := by decide +kernel
theorem d_Y_hears_22 : decode c_Y_hears 22 = .ok (.iload_n 1, 1) := by decide +kernel
theorem d_Y_hears_23 : decode c_Y_hears 23 = .ok (.iaload, 1) := by decide +kernel
theorem d_Y_hears_24 : decode c_Y_hears 24 = .ok (.aload_n 0, 1) := by decide +kernel
theorem d_Y_hears_25 : decode c_Y_hears 25 = .ok (.getfield 13, 3) := by decide +kernel
theorem d_Y_hears_28 : decode c_Y_hears 28 = .ok (.iload_n 2, 1) := by decide +kernel
theorem d_Y_hears_29 : decode c_Y_hears 29 = .ok (.iaload, 1) := by decide +kernel
theorem d_Y_hears_30 : decode c_Y_hears 30 = .ok (.if_icmp .ne 22, 3) := by decide +kernel
theorem d_Y_hears_33 : decode c_Y_hears 33 = .ok (.aload_n 0, 1) := by decide +kernel
theorem d_Y_hears_34 : decode c_Y_hears 34 = .ok (.getfield 17, 3) := by decide +kernel
theorem d_Y_hears_37 : decode c_Y_hears 37 = .ok (.iload_n 1, 1) := by decide +kernel
theorem d_Y_hears_38 : decode c_Y_hears 38 = .ok (.iaload, 1) := by decide +kernel
theorem d_Y_hears_39 : decode c_Y_hears 39 = .ok (.aload_n 0, 1) := by decide +kernel
theorem d_Y_hears_40 : decode c_Y_hears 40 = .ok (.getfield 17, 3) := by decide +kernel
theorem d_Y_hears_43 : decode c_Y_hears 43 = .ok (.iload_n 2, 1) := by decide +kernel
theorem d_Y_hears_44 : decode c_Y_hears 44 = .ok (.iaload, 1) := by decide +kernel
theorem d_Y_hears_45 : decode c_Y_hears 45 = .ok (.if_icmp .ne 7, 3) := by decide +kernel
theorem d_Y_hears_48 : decode c_Y_hears 48 = .ok (.iconst 1, 1) := by decide +kernel
theorem d_Y_hears_49 : decode c_Y_hears 49 = .ok (.goto 4, 3) := by decide +kernel
theorem d_Y_hears_52 : decode c_Y_hears 52 = .ok (.iconst 0, 1) := by decide +kernel
theorem d_Y_hears_53 : decode c_Y_hears 53 = .ok (.ireturn, 1) := by decide +kernel
theorem d_Y_message_0 : decode c_Y_message 0 = .ok (.iconst 1, 1) := by decide +kernel
theorem d_Y_message_1 : decode c_Y_message 1 = .ok (.istore_n 3, 1) := by decide +kernel
theorem d_Y_message_2 : decode c_Y_message 2 = .ok (.iload_n 3, 1) := by decide +kernel
theorem d_Y_message_3 : decode c_Y_message 3 = .ok (.aload_n 0, 1) := by decide +kernel
theorem d_Y_message_4 : decode c_Y_message 4 = .ok (.getfield 80, 3) := by decide +kernel
theorem d_Y_message_7 : decode c_Y_message 7 = .ok (.if_icmp .gt 31, 3) := by decide +kernel
theorem d_Y_message_10 : decode c_Y_message 10 = .ok (.aload_n 0, 1) := by decide +kernel
theorem d_Y_message_11 : decode c_Y_message 11 = .ok (.getfield 53, 3) := by decide +kernel
theorem d_Y_message_14 : decode c_Y_message 14 = .ok (.iload_n 3, 1) := by decide +kernel
theorem d_Y_message_15 : decode c_Y_message 15 = .ok (.iaload, 1) := by decide +kernel
theorem d_Y_message_16 : decode c_Y_message 16 = .ok (.iload_n 2, 1) := by decide +kernel
theorem d_Y_message_17 : decode c_Y_message 17 = .ok (.if_icmp .ne 15, 3) := by decide +kernel
theorem d_Y_message_20 : decode c_Y_message 20 = .ok (.aload_n 0, 1) := by decide +kernel
theorem d_Y_message_21 : decode c_Y_message 21 = .ok (.getfield 50, 3) := by decide +kernel
theorem d_Y_message_24 : decode c_Y_message 24 = .ok (.iload_n 3, 1) := by decide +kernel
theorem d_Y_message_25 : decode c_Y_message 25 = .ok (.iaload, 1) := by decide +kernel
theorem d_Y_message_26 : decode c_Y_message 26 = .ok (.iload_n 1, 1) := by decide +kernel
theorem d_Y_message_27 : decode c_Y_message 27 = .ok (.if_icmp .ne 5, 3) := by decide +kernel
theorem d_Y_message_30 : decode c_Y_message 30 = .ok (.iload_n 3, 1) := by decide +kernel
theorem d_Y_message_31 : decode c_Y_message 31 = .ok (.ireturn, 1) := by decide +kernel
theorem d_Y_message_32 : decode c_Y_message 32 = .ok (.iinc 3 1, 3) := by decide +kernel
theorem d_Y_message_35 : decode c_Y_message 35 = .ok (.goto (-33), 3) := by decide +kernel
theorem d_Y_message_38 : decode c_Y_message 38 = .ok (.iconst 0, 1) := by decide +kernel
theorem d_Y_message_39 : decode c_Y_message 39 = .ok (.ireturn, 1) := by decide +kernel
theorem d_Y_has_0 : decode c_Y_has 0 = .ok (.aload_n 0, 1) := by decide +kernel
theorem d_Y_has_1 : decode c_Y_has 1 = .ok (.aload_n 0, 1) := by decide +kernel
theorem d_Y_has_2 : decode c_Y_has 2 = .ok (.getfield 17, 3) := by decide +kernel
theorem d_Y_has_5 : decode c_Y_has 5 = .ok (.iload_n 1, 1) := by decide +kernel
theorem d_Y_has_6 : decode c_Y_has 6 = .ok (.iaload, 1) := by decide +kernel
theorem d_Y_has_7 : decode c_Y_has 7 = .ok (.iload_n 2, 1) := by decide +kernel
theorem d_Y_has_8 : decode c_Y_has 8 = .ok (.invokevirtual 83, 3) := by decide +kernel
theorem d_Y_has_11 : decode c_Y_has 11 = .ok (.istore_n 3, 1) := by decide +kernel
theorem d_Y_has_12 : decode c_Y_has 12 = .ok (.iload_n 3, 1) := by decide +kernel
theorem d_Y_has_13 : decode c_Y_has 13 = .ok (.ifCond .le 21, 3) := by decide +kernel
theorem d_Y_has_16 : decode c_Y_has 16 = .ok (.aload_n 0, 1) := by decide +kernel
theorem d_Y_has_17 : decode c_Y_has 17 = .ok (.getfield 32, 3) := by decide +kernel
theorem d_Y_has_20 : decode c_Y_has 20 = .ok (.bipush 49, 2) := by decide +kernel
theorem d_Y_has_22 : decode c_Y_has 22 = .ok (.iload_n 1, 1) := by decide +kernel
theorem d_Y_has_23 : decode c_Y_has 23 = .ok (.imul, 1) := by decide +kernel
theorem d_Y_has_24 : decode c_Y_has 24 = .ok (.iload_n 3, 1) := by decide +kernel
theorem d_Y_has_25 : decode c_Y_has 25 = .ok (.iadd, 1) := by decide +kernel
theorem d_Y_has_26 : decode c_Y_has 26 = .ok (.baload, 1) := by decide +kernel
theorem d_Y_has_27 : decode c_Y_has 27 = .ok (.ifCond .eq 7, 3) := by decide +kernel
theorem d_Y_has_30 : decode c_Y_has 30 = .ok (.iconst 1, 1) := by decide +kernel
theorem d_Y_has_31 : decode c_Y_has 31 = .ok (.goto 4, 3) := by decide +kernel
theorem d_Y_has_34 : decode c_Y_has 34 = .ok (.iconst 0, 1) := by decide +kernel
theorem d_Y_has_35 : decode c_Y_has 35 = .ok (.ireturn, 1) := by decide +kernel
theorem d_Y_reachOf_0 : decode c_Y_reachOf 0 = .ok (.iconst 0, 1) := by decide +kernel
theorem d_Y_reachOf_1 : decode c_Y_reachOf 1 = .ok (.istore_n 2, 1) := by decide +kernel
theorem d_Y_reachOf_2 : decode c_Y_reachOf 2 = .ok (.iload_n 2, 1) := by decide +kernel
theorem d_Y_reachOf_3 : decode c_Y_reachOf 3 = .ok (.bipush 48, 2) := by decide +kernel
theorem d_Y_reachOf_5 : decode c_Y_reachOf 5 = .ok (.if_icmp .ge 20, 3) := by decide +kernel
theorem d_Y_reachOf_8 : decode c_Y_reachOf 8 = .ok (.aload_n 0, 1) := by decide +kernel
theorem d_Y_reachOf_9 : decode c_Y_reachOf 9 = .ok (.iload_n 1, 1) := by decide +kernel
theorem d_Y_reachOf_10 : decode c_Y_reachOf 10 = .ok (.iload_n 2, 1) := by decide +kernel
theorem d_Y_reachOf_11 : decode c_Y_reachOf 11 = .ok (.iconst 1, 1) := by decide +kernel
theorem d_Y_reachOf_12 : decode c_Y_reachOf 12 = .ok (.iadd, 1) := by decide +kernel
theorem d_Y_reachOf_13 : decode c_Y_reachOf 13 = .ok (.invokevirtual 87, 3) := by decide +kernel
theorem d_Y_reachOf_16 : decode c_Y_reachOf 16 = .ok (.ifCond .eq 9, 3) := by decide +kernel
theorem d_Y_reachOf_19 : decode c_Y_reachOf 19 = .ok (.iinc 2 1, 3) := by decide +kernel
theorem d_Y_reachOf_22 : decode c_Y_reachOf 22 = .ok (.goto (-20), 3) := by decide +kernel
theorem d_Y_reachOf_25 : decode c_Y_reachOf 25 = .ok (.iload_n 2, 1) := by decide +kernel
theorem d_Y_reachOf_26 : decode c_Y_reachOf 26 = .ok (.ireturn, 1) := by decide +kernel
theorem d_Y_first_0 : decode c_Y_first 0 = .ok (.iconst 1, 1) := by decide +kernel
theorem d_Y_first_1 : decode c_Y_first 1 = .ok (.istore_n 2, 1) := by decide +kernel
theorem d_Y_first_2 : decode c_Y_first 2 = .ok (.iload_n 2, 1) := by decide +kernel
theorem d_Y_first_3 : decode c_Y_first 3 = .ok (.aload_n 0, 1) := by decide +kernel
theorem d_Y_first_4 : decode c_Y_first 4 = .ok (.getfield 80, 3) := by decide +kernel
theorem d_Y_first_7 : decode c_Y_first 7 = .ok (.if_icmp .gt 39, 3) := by decide +kernel
theorem d_Y_first_10 : decode c_Y_first 10 = .ok (.aload_n 0, 1) := by decide +kernel
theorem d_Y_first_11 : decode c_Y_first 11 = .ok (.getfield 41, 3) := by decide +kernel
theorem d_Y_first_14 : decode c_Y_first 14 = .ok (.iload_n 2, 1) := by decide +kernel
theorem d_Y_first_15 : decode c_Y_first 15 = .ok (.iaload, 1) := by decide +kernel
theorem d_Y_first_16 : decode c_Y_first 16 = .ok (.iload_n 1, 1) := by decide +kernel
theorem d_Y_first_17 : decode c_Y_first 17 = .ok (.if_icmp .ne 23, 3) := by decide +kernel
theorem d_Y_first_20 : decode c_Y_first 20 = .ok (.aload_n 0, 1) := by decide +kernel
theorem d_Y_first_21 : decode c_Y_first 21 = .ok (.getfield 53, 3) := by decide +kernel
theorem d_Y_first_24 : decode c_Y_first 24 = .ok (.iload_n 2, 1) := by decide +kernel
theorem d_Y_first_25 : decode c_Y_first 25 = .ok (.iaload, 1) := by decide +kernel
theorem d_Y_first_26 : decode c_Y_first 26 = .ok (.ifCond .ne 14, 3) := by decide +kernel
theorem d_Y_first_29 : decode c_Y_first 29 = .ok (.aload_n 0, 1) := by decide +kernel
theorem d_Y_first_30 : decode c_Y_first 30 = .ok (.getfield 47, 3) := by decide +kernel
theorem d_Y_first_33 : decode c_Y_first 33 = .ok (.iload_n 2, 1) := by decide +kernel
theorem d_Y_first_34 : decode c_Y_first 34 = .ok (.baload, 1) := by decide +kernel
theorem d_Y_first_35 : decode c_Y_first 35 = .ok (.ifCond .ne 5, 3) := by decide +kernel
theorem d_Y_first_38 : decode c_Y_first 38 = .ok (.iload_n 2, 1) := by decide +kernel
theorem d_Y_first_39 : decode c_Y_first 39 = .ok (.ireturn, 1) := by decide +kernel
theorem d_Y_first_40 : decode c_Y_first 40 = .ok (.iinc 2 1, 3) := by decide +kernel
theorem d_Y_first_43 : decode c_Y_first 43 = .ok (.goto (-41), 3) := by decide +kernel
theorem d_Y_first_46 : decode c_Y_first 46 = .ok (.iconst 0, 1) := by decide +kernel
theorem d_Y_first_47 : decode c_Y_first 47 = .ok (.ireturn, 1) := by decide +kernel
theorem d_Y_queued_0 : decode c_Y_queued 0 = .ok (.iconst 0, 1) := by decide +kernel
theorem d_Y_queued_1 : decode c_Y_queued 1 = .ok (.istore_n 2, 1) := by decide +kernel
theorem d_Y_queued_2 : decode c_Y_queued 2 = .ok (.iconst 1, 1) := by decide +kernel
theorem d_Y_queued_3 : decode c_Y_queued 3 = .ok (.istore_n 3, 1) := by decide +kernel
theorem d_Y_queued_4 : decode c_Y_queued 4 = .ok (.iload_n 3, 1) := by decide +kernel
theorem d_Y_queued_5 : decode c_Y_queued 5 = .ok (.aload_n 0, 1) := by decide +kernel
theorem d_Y_queued_6 : decode c_Y_queued 6 = .ok (.getfield 80, 3) := by decide +kernel
theorem d_Y_queued_9 : decode c_Y_queued 9 = .ok (.if_icmp .gt 45, 3) := by decide +kernel
theorem d_Y_queued_12 : decode c_Y_queued 12 = .ok (.iload_n 2, 1) := by decide +kernel
theorem d_Y_queued_13 : decode c_Y_queued 13 = .ok (.aload_n 0, 1) := by decide +kernel
theorem d_Y_queued_14 : decode c_Y_queued 14 = .ok (.getfield 41, 3) := by decide +kernel
theorem d_Y_queued_17 : decode c_Y_queued 17 = .ok (.iload_n 3, 1) := by decide +kernel
theorem d_Y_queued_18 : decode c_Y_queued 18 = .ok (.iaload, 1) := by decide +kernel
theorem d_Y_queued_19 : decode c_Y_queued 19 = .ok (.iload_n 1, 1) := by decide +kernel
theorem d_Y_queued_20 : decode c_Y_queued 20 = .ok (.if_icmp .ne 25, 3) := by decide +kernel
theorem d_Y_queued_23 : decode c_Y_queued 23 = .ok (.aload_n 0, 1) := by decide +kernel
theorem d_Y_queued_24 : decode c_Y_queued 24 = .ok (.getfield 53, 3) := by decide +kernel
theorem d_Y_queued_27 : decode c_Y_queued 27 = .ok (.iload_n 3, 1) := by decide +kernel
theorem d_Y_queued_28 : decode c_Y_queued 28 = .ok (.iaload, 1) := by decide +kernel
theorem d_Y_queued_29 : decode c_Y_queued 29 = .ok (.ifCond .ne 16, 3) := by decide +kernel
theorem d_Y_queued_32 : decode c_Y_queued 32 = .ok (.aload_n 0, 1) := by decide +kernel
theorem d_Y_queued_33 : decode c_Y_queued 33 = .ok (.getfield 47, 3) := by decide +kernel
theorem d_Y_queued_36 : decode c_Y_queued 36 = .ok (.iload_n 3, 1) := by decide +kernel
theorem d_Y_queued_37 : decode c_Y_queued 37 = .ok (.baload, 1) := by decide +kernel
theorem d_Y_queued_38 : decode c_Y_queued 38 = .ok (.ifCond .ne 7, 3) := by decide +kernel
theorem d_Y_queued_41 : decode c_Y_queued 41 = .ok (.iconst 1, 1) := by decide +kernel
theorem d_Y_queued_42 : decode c_Y_queued 42 = .ok (.goto 4, 3) := by decide +kernel
theorem d_Y_queued_45 : decode c_Y_queued 45 = .ok (.iconst 0, 1) := by decide +kernel
theorem d_Y_queued_46 : decode c_Y_queued 46 = .ok (.iadd, 1) := by decide +kernel
theorem d_Y_queued_47 : decode c_Y_queued 47 = .ok (.istore_n 2, 1) := by decide +kernel
theorem d_Y_queued_48 : decode c_Y_queued 48 = .ok (.iinc 3 1, 3) := by decide +kernel
theorem d_Y_queued_51 : decode c_Y_queued 51 = .ok (.goto (-47), 3) := by decide +kernel
theorem d_Y_queued_54 : decode c_Y_queued 54 = .ok (.iload_n 2, 1) := by decide +kernel
theorem d_Y_queued_55 : decode c_Y_queued 55 = .ok (.ireturn, 1) := by decide +kernel
theorem d_Y_send_0 : decode c_Y_send 0 = .ok (.aload_n 0, 1) := by decide +kernel
theorem d_Y_send_1 : decode c_Y_send 1 = .ok (.iload_n 1, 1) := by decide +kernel
theorem d_Y_send_2 : decode c_Y_send 2 = .ok (.invokevirtual 91, 3) := by decide +kernel
theorem d_Y_send_5 : decode c_Y_send 5 = .ok (.istore_n 3, 1) := by decide +kernel
theorem d_Y_send_6 : decode c_Y_send 6 = .ok (.iload_n 3, 1) := by decide +kernel
theorem d_Y_send_7 : decode c_Y_send 7 = .ok (.ifCond .eq 5, 3) := by decide +kernel
theorem d_Y_send_10 : decode c_Y_send 10 = .ok (.iload_n 3, 1) := by decide +kernel
theorem d_Y_send_11 : decode c_Y_send 11 = .ok (.ireturn, 1) := by decide +kernel
theorem d_Y_send_12 : decode c_Y_send 12 = .ok (.aload_n 0, 1) := by decide +kernel
theorem d_Y_send_13 : decode c_Y_send 13 = .ok (.getfield 80, 3) := by decide +kernel
theorem d_Y_send_16 : decode c_Y_send 16 = .ok (.bipush 48, 2) := by decide +kernel
theorem d_Y_send_18 : decode c_Y_send 18 = .ok (.if_icmp .eq 13, 3) := by decide +kernel
theorem d_Y_send_21 : decode c_Y_send 21 = .ok (.aload_n 0, 1) := by decide +kernel
theorem d_Y_send_22 : decode c_Y_send 22 = .ok (.iload_n 1, 1) := by decide +kernel
theorem d_Y_send_23 : decode c_Y_send 23 = .ok (.invokevirtual 95, 3) := by decide +kernel
theorem d_Y_send_26 : decode c_Y_send 26 = .ok (.bipush 8, 2) := by decide +kernel
theorem d_Y_send_28 : decode c_Y_send 28 = .ok (.if_icmp .ne 6, 3) := by decide +kernel
theorem d_Y_send_31 : decode c_Y_send 31 = .ok (.bipush (-4), 2) := by decide +kernel
theorem d_Y_send_33 : decode c_Y_send 33 = .ok (.ireturn, 1) := by decide +kernel
theorem d_Y_send_34 : decode c_Y_send 34 = .ok (.aload_n 0, 1) := by decide +kernel
theorem d_Y_send_35 : decode c_Y_send 35 = .ok (.dup, 1) := by decide +kernel
theorem d_Y_send_36 : decode c_Y_send 36 = .ok (.getfield 80, 3) := by decide +kernel
theorem d_Y_send_39 : decode c_Y_send 39 = .ok (.iconst 1, 1) := by decide +kernel
theorem d_Y_send_40 : decode c_Y_send 40 = .ok (.iadd, 1) := by decide +kernel
theorem d_Y_send_41 : decode c_Y_send 41 = .ok (.putfield 80, 3) := by decide +kernel
theorem d_Y_send_44 : decode c_Y_send 44 = .ok (.aload_n 0, 1) := by decide +kernel
theorem d_Y_send_45 : decode c_Y_send 45 = .ok (.getfield 41, 3) := by decide +kernel
theorem d_Y_send_48 : decode c_Y_send 48 = .ok (.aload_n 0, 1) := by decide +kernel
theorem d_Y_send_49 : decode c_Y_send 49 = .ok (.getfield 80, 3) := by decide +kernel
theorem d_Y_send_52 : decode c_Y_send 52 = .ok (.iload_n 1, 1) := by decide +kernel
theorem d_Y_send_53 : decode c_Y_send 53 = .ok (.iastore, 1) := by decide +kernel
theorem d_Y_send_54 : decode c_Y_send 54 = .ok (.aload_n 0, 1) := by decide +kernel
theorem d_Y_send_55 : decode c_Y_send 55 = .ok (.getfield 44, 3) := by decide +kernel
theorem d_Y_send_58 : decode c_Y_send 58 = .ok (.aload_n 0, 1) := by decide +kernel
theorem d_Y_send_59 : decode c_Y_send 59 = .ok (.getfield 80, 3) := by decide +kernel
theorem d_Y_send_62 : decode c_Y_send 62 = .ok (.iload_n 2, 1) := by decide +kernel
theorem d_Y_send_63 : decode c_Y_send 63 = .ok (.bastore, 1) := by decide +kernel
theorem d_Y_send_64 : decode c_Y_send 64 = .ok (.aload_n 0, 1) := by decide +kernel
theorem d_Y_send_65 : decode c_Y_send 65 = .ok (.getfield 80, 3) := by decide +kernel
theorem d_Y_send_68 : decode c_Y_send 68 = .ok (.ireturn, 1) := by decide +kernel
theorem d_Y_broadcast_0 : decode c_Y_broadcast 0 = .ok (.aload_n 0, 1) := by decide +kernel
theorem d_Y_broadcast_1 : decode c_Y_broadcast 1 = .ok (.getfield 32, 3) := by decide +kernel
theorem d_Y_broadcast_4 : decode c_Y_broadcast 4 = .ok (.bipush 49, 2) := by decide +kernel
theorem d_Y_broadcast_6 : decode c_Y_broadcast 6 = .ok (.iload_n 1, 1) := by decide +kernel
theorem d_Y_broadcast_7 : decode c_Y_broadcast 7 = .ok (.imul, 1) := by decide +kernel
theorem d_Y_broadcast_8 : decode c_Y_broadcast 8 = .ok (.iload_n 2, 1) := by decide +kernel
theorem d_Y_broadcast_9 : decode c_Y_broadcast 9 = .ok (.iadd, 1) := by decide +kernel
theorem d_Y_broadcast_10 : decode c_Y_broadcast 10 = .ok (.iconst 1, 1) := by decide +kernel
theorem d_Y_broadcast_11 : decode c_Y_broadcast 11 = .ok (.bastore, 1) := by decide +kernel
theorem d_Y_broadcast_12 : decode c_Y_broadcast 12 = .ok (.iconst 0, 1) := by decide +kernel
theorem d_Y_broadcast_13 : decode c_Y_broadcast 13 = .ok (.istore_n 3, 1) := by decide +kernel
theorem d_Y_broadcast_14 : decode c_Y_broadcast 14 = .ok (.iload_n 3, 1) := by decide +kernel
theorem d_Y_broadcast_15 : decode c_Y_broadcast 15 = .ok (.iconst 5, 1) := by decide +kernel
theorem d_Y_broadcast_16 : decode c_Y_broadcast 16 = .ok (.if_icmp .ge 57, 3) := by decide +kernel
theorem d_Y_broadcast_19 : decode c_Y_broadcast 19 = .ok (.iload_n 3, 1) := by decide +kernel
theorem d_Y_broadcast_20 : decode c_Y_broadcast 20 = .ok (.iload_n 1, 1) := by decide +kernel
theorem d_Y_broadcast_21 : decode c_Y_broadcast 21 = .ok (.if_icmp .eq 46, 3) := by decide +kernel
theorem d_Y_broadcast_24 : decode c_Y_broadcast 24 = .ok (.aload_n 0, 1) := by decide +kernel
theorem d_Y_broadcast_25 : decode c_Y_broadcast 25 = .ok (.iload_n 3, 1) := by decide +kernel
theorem d_Y_broadcast_26 : decode c_Y_broadcast 26 = .ok (.iload_n 1, 1) := by decide +kernel
theorem d_Y_broadcast_27 : decode c_Y_broadcast 27 = .ok (.invokevirtual 98, 3) := by decide +kernel
theorem d_Y_broadcast_30 : decode c_Y_broadcast 30 = .ok (.ifCond .eq 37, 3) := by decide +kernel
theorem d_Y_broadcast_33 : decode c_Y_broadcast 33 = .ok (.aload_n 0, 1) := by decide +kernel
theorem d_Y_broadcast_34 : decode c_Y_broadcast 34 = .ok (.getfield 26, 3) := by decide +kernel
theorem d_Y_broadcast_37 : decode c_Y_broadcast 37 = .ok (.iload_n 3, 1) := by decide +kernel
theorem d_Y_broadcast_38 : decode c_Y_broadcast 38 = .ok (.iaload, 1) := by decide +kernel
theorem d_Y_broadcast_39 : decode c_Y_broadcast 39 = .ok (.ifCond .le 16, 3) := by decide +kernel
theorem d_Y_broadcast_42 : decode c_Y_broadcast 42 = .ok (.aload_n 0, 1) := by decide +kernel
theorem d_Y_broadcast_43 : decode c_Y_broadcast 43 = .ok (.getfield 26, 3) := by decide +kernel
theorem d_Y_broadcast_46 : decode c_Y_broadcast 46 = .ok (.iload_n 3, 1) := by decide +kernel
theorem d_Y_broadcast_47 : decode c_Y_broadcast 47 = .ok (.dup2, 1) := by decide +kernel
theorem d_Y_broadcast_48 : decode c_Y_broadcast 48 = .ok (.iaload, 1) := by decide +kernel
theorem d_Y_broadcast_49 : decode c_Y_broadcast 49 = .ok (.iconst 1, 1) := by decide +kernel
theorem d_Y_broadcast_50 : decode c_Y_broadcast 50 = .ok (.isub, 1) := by decide +kernel
theorem d_Y_broadcast_51 : decode c_Y_broadcast 51 = .ok (.iastore, 1) := by decide +kernel
theorem d_Y_broadcast_52 : decode c_Y_broadcast 52 = .ok (.goto 15, 3) := by decide +kernel
theorem d_Y_broadcast_55 : decode c_Y_broadcast 55 = .ok (.aload_n 0, 1) := by decide +kernel
theorem d_Y_broadcast_56 : decode c_Y_broadcast 56 = .ok (.getfield 32, 3) := by decide +kernel
theorem d_Y_broadcast_59 : decode c_Y_broadcast 59 = .ok (.bipush 49, 2) := by decide +kernel
theorem d_Y_broadcast_61 : decode c_Y_broadcast 61 = .ok (.iload_n 3, 1) := by decide +kernel
theorem d_Y_broadcast_62 : decode c_Y_broadcast 62 = .ok (.imul, 1) := by decide +kernel
theorem d_Y_broadcast_63 : decode c_Y_broadcast 63 = .ok (.iload_n 2, 1) := by decide +kernel
theorem d_Y_broadcast_64 : decode c_Y_broadcast 64 = .ok (.iadd, 1) := by decide +kernel
theorem d_Y_broadcast_65 : decode c_Y_broadcast 65 = .ok (.iconst 1, 1) := by decide +kernel
theorem d_Y_broadcast_66 : decode c_Y_broadcast 66 = .ok (.bastore, 1) := by decide +kernel
theorem d_Y_broadcast_67 : decode c_Y_broadcast 67 = .ok (.iinc 3 1, 3) := by decide +kernel
theorem d_Y_broadcast_70 : decode c_Y_broadcast 70 = .ok (.goto (-56), 3) := by decide +kernel
theorem d_Y_broadcast_73 : decode c_Y_broadcast 73 = .ok (.return_, 1) := by decide +kernel
theorem d_Y_append_0 : decode c_Y_append 0 = .ok (.aload_n 0, 1) := by decide +kernel
theorem d_Y_append_1 : decode c_Y_append 1 = .ok (.getfield 35, 3) := by decide +kernel
theorem d_Y_append_4 : decode c_Y_append 4 = .ok (.bipush 48, 2) := by decide +kernel
theorem d_Y_append_6 : decode c_Y_append 6 = .ok (.iload_n 1, 1) := by decide +kernel
theorem d_Y_append_7 : decode c_Y_append 7 = .ok (.imul, 1) := by decide +kernel
theorem d_Y_append_8 : decode c_Y_append 8 = .ok (.aload_n 0, 1) := by decide +kernel
theorem d_Y_append_9 : decode c_Y_append 9 = .ok (.getfield 38, 3) := by decide +kernel
theorem d_Y_append_12 : decode c_Y_append 12 = .ok (.iload_n 1, 1) := by decide +kernel
theorem d_Y_append_13 : decode c_Y_append 13 = .ok (.iaload, 1) := by decide +kernel
theorem d_Y_append_14 : decode c_Y_append 14 = .ok (.iadd, 1) := by decide +kernel
theorem d_Y_append_15 : decode c_Y_append 15 = .ok (.iload_n 2, 1) := by decide +kernel
theorem d_Y_append_16 : decode c_Y_append 16 = .ok (.iastore, 1) := by decide +kernel
theorem d_Y_append_17 : decode c_Y_append 17 = .ok (.aload_n 0, 1) := by decide +kernel
theorem d_Y_append_18 : decode c_Y_append 18 = .ok (.getfield 38, 3) := by decide +kernel
theorem d_Y_append_21 : decode c_Y_append 21 = .ok (.iload_n 1, 1) := by decide +kernel
theorem d_Y_append_22 : decode c_Y_append 22 = .ok (.dup2, 1) := by decide +kernel
theorem d_Y_append_23 : decode c_Y_append 23 = .ok (.iaload, 1) := by decide +kernel
theorem d_Y_append_24 : decode c_Y_append 24 = .ok (.iconst 1, 1) := by decide +kernel
theorem d_Y_append_25 : decode c_Y_append 25 = .ok (.iadd, 1) := by decide +kernel
theorem d_Y_append_26 : decode c_Y_append 26 = .ok (.iastore, 1) := by decide +kernel
theorem d_Y_append_27 : decode c_Y_append 27 = .ok (.return_, 1) := by decide +kernel
theorem d_Y_deliver_0 : decode c_Y_deliver 0 = .ok (.iconst 1, 1) := by decide +kernel
theorem d_Y_deliver_1 : decode c_Y_deliver 1 = .ok (.istore_n 2, 1) := by decide +kernel
theorem d_Y_deliver_2 : decode c_Y_deliver 2 = .ok (.iconst 0, 1) := by decide +kernel
theorem d_Y_deliver_3 : decode c_Y_deliver 3 = .ok (.istore_n 3, 1) := by decide +kernel
theorem d_Y_deliver_4 : decode c_Y_deliver 4 = .ok (.iload_n 3, 1) := by decide +kernel
theorem d_Y_deliver_5 : decode c_Y_deliver 5 = .ok (.bipush 48, 2) := by decide +kernel
theorem d_Y_deliver_7 : decode c_Y_deliver 7 = .ok (.if_icmp .ge 105, 3) := by decide +kernel
theorem d_Y_deliver_10 : decode c_Y_deliver 10 = .ok (.iload_n 2, 1) := by decide +kernel
theorem d_Y_deliver_11 : decode c_Y_deliver 11 = .ok (.ifCond .eq 101, 3) := by decide +kernel
theorem d_Y_deliver_14 : decode c_Y_deliver 14 = .ok (.aload_n 0, 1) := by decide +kernel
theorem d_Y_deliver_15 : decode c_Y_deliver 15 = .ok (.getfield 23, 3) := by decide +kernel
theorem d_Y_deliver_18 : decode c_Y_deliver 18 = .ok (.iload_n 1, 1) := by decide +kernel
theorem d_Y_deliver_19 : decode c_Y_deliver 19 = .ok (.iaload, 1) := by decide +kernel
theorem d_Y_deliver_20 : decode c_Y_deliver 20 = .ok (.iconst 1, 1) := by decide +kernel
theorem d_Y_deliver_21 : decode c_Y_deliver 21 = .ok (.iadd, 1) := by decide +kernel
theorem d_Y_deliver_22 : decode c_Y_deliver 22 = .ok (.istore 4, 2) := by decide +kernel
theorem d_Y_deliver_24 : decode c_Y_deliver 24 = .ok (.aload_n 0, 1) := by decide +kernel
theorem d_Y_deliver_25 : decode c_Y_deliver 25 = .ok (.aload_n 0, 1) := by decide +kernel
theorem d_Y_deliver_26 : decode c_Y_deliver 26 = .ok (.getfield 17, 3) := by decide +kernel
theorem d_Y_deliver_29 : decode c_Y_deliver 29 = .ok (.iload_n 1, 1) := by decide +kernel
theorem d_Y_deliver_30 : decode c_Y_deliver 30 = .ok (.iaload, 1) := by decide +kernel
theorem d_Y_deliver_31 : decode c_Y_deliver 31 = .ok (.iload 4, 2) := by decide +kernel
theorem d_Y_deliver_33 : decode c_Y_deliver 33 = .ok (.invokevirtual 83, 3) := by decide +kernel
theorem d_Y_deliver_36 : decode c_Y_deliver 36 = .ok (.istore 5, 2) := by decide +kernel
theorem d_Y_deliver_38 : decode c_Y_deliver 38 = .ok (.iload 5, 2) := by decide +kernel
theorem d_Y_deliver_40 : decode c_Y_deliver 40 = .ok (.ifCond .le 43, 3) := by decide +kernel
theorem d_Y_deliver_43 : decode c_Y_deliver 43 = .ok (.aload_n 0, 1) := by decide +kernel
theorem d_Y_deliver_44 : decode c_Y_deliver 44 = .ok (.getfield 32, 3) := by decide +kernel
theorem d_Y_deliver_47 : decode c_Y_deliver 47 = .ok (.bipush 49, 2) := by decide +kernel
theorem d_Y_deliver_49 : decode c_Y_deliver 49 = .ok (.iload_n 1, 1) := by decide +kernel
theorem d_Y_deliver_50 : decode c_Y_deliver 50 = .ok (.imul, 1) := by decide +kernel
theorem d_Y_deliver_51 : decode c_Y_deliver 51 = .ok (.iload 5, 2) := by decide +kernel
theorem d_Y_deliver_53 : decode c_Y_deliver 53 = .ok (.iadd, 1) := by decide +kernel
theorem d_Y_deliver_54 : decode c_Y_deliver 54 = .ok (.baload, 1) := by decide +kernel
theorem d_Y_deliver_55 : decode c_Y_deliver 55 = .ok (.ifCond .eq 28, 3) := by decide +kernel
theorem d_Y_deliver_58 : decode c_Y_deliver 58 = .ok (.aload_n 0, 1) := by decide +kernel
theorem d_Y_deliver_59 : decode c_Y_deliver 59 = .ok (.getfield 44, 3) := by decide +kernel
theorem d_Y_deliver_62 : decode c_Y_deliver 62 = .ok (.iload 5, 2) := by decide +kernel
theorem d_Y_deliver_64 : decode c_Y_deliver 64 = .ok (.baload, 1) := by decide +kernel
theorem d_Y_deliver_65 : decode c_Y_deliver 65 = .ok (.ifCond .eq 14, 3) := by decide +kernel
theorem d_Y_deliver_68 : decode c_Y_deliver 68 = .ok (.iload 4, 2) := by decide +kernel
theorem d_Y_deliver_70 : decode c_Y_deliver 70 = .ok (.aload_n 0, 1) := by decide +kernel
theorem d_Y_deliver_71 : decode c_Y_deliver 71 = .ok (.getfield 20, 3) := by decide +kernel
theorem d_Y_deliver_74 : decode c_Y_deliver 74 = .ok (.iload_n 1, 1) := by decide +kernel
theorem d_Y_deliver_75 : decode c_Y_deliver 75 = .ok (.iaload, 1) := by decide +kernel
theorem d_Y_deliver_76 : decode c_Y_deliver 76 = .ok (.if_icmp .gt 7, 3) := by decide +kernel
theorem d_Y_deliver_79 : decode c_Y_deliver 79 = .ok (.iconst 1, 1) := by decide +kernel
theorem d_Y_deliver_80 : decode c_Y_deliver 80 = .ok (.goto 4, 3) := by decide +kernel
theorem d_Y_deliver_83 : decode c_Y_deliver 83 = .ok (.iconst 0, 1) := by decide +kernel
theorem d_Y_deliver_84 : decode c_Y_deliver 84 = .ok (.istore_n 2, 1) := by decide +kernel
theorem d_Y_deliver_85 : decode c_Y_deliver 85 = .ok (.iload_n 2, 1) := by decide +kernel
theorem d_Y_deliver_86 : decode c_Y_deliver 86 = .ok (.ifCond .eq 20, 3) := by decide +kernel
theorem d_Y_deliver_89 : decode c_Y_deliver 89 = .ok (.aload_n 0, 1) := by decide +kernel
theorem d_Y_deliver_90 : decode c_Y_deliver 90 = .ok (.iload_n 1, 1) := by decide +kernel
theorem d_Y_deliver_91 : decode c_Y_deliver 91 = .ok (.iconst 2, 1) := by decide +kernel
theorem d_Y_deliver_92 : decode c_Y_deliver 92 = .ok (.iload 5, 2) := by decide +kernel
theorem d_Y_deliver_94 : decode c_Y_deliver 94 = .ok (.imul, 1) := by decide +kernel
theorem d_Y_deliver_95 : decode c_Y_deliver 95 = .ok (.invokevirtual 101, 3) := by decide +kernel
theorem d_Y_deliver_98 : decode c_Y_deliver 98 = .ok (.aload_n 0, 1) := by decide +kernel
theorem d_Y_deliver_99 : decode c_Y_deliver 99 = .ok (.getfield 23, 3) := by decide +kernel
theorem d_Y_deliver_102 : decode c_Y_deliver 102 = .ok (.iload_n 1, 1) := by decide +kernel
theorem d_Y_deliver_103 : decode c_Y_deliver 103 = .ok (.iload 4, 2) := by decide +kernel
theorem d_Y_deliver_105 : decode c_Y_deliver 105 = .ok (.iastore, 1) := by decide +kernel
theorem d_Y_deliver_106 : decode c_Y_deliver 106 = .ok (.iinc 3 1, 3) := by decide +kernel
theorem d_Y_deliver_109 : decode c_Y_deliver 109 = .ok (.goto (-105), 3) := by decide +kernel
theorem d_Y_deliver_112 : decode c_Y_deliver 112 = .ok (.return_, 1) := by decide +kernel
theorem d_Y_sendAgain_0 : decode c_Y_sendAgain 0 = .ok (.iconst 0, 1) := by decide +kernel
theorem d_Y_sendAgain_1 : decode c_Y_sendAgain 1 = .ok (.istore_n 3, 1) := by decide +kernel
theorem d_Y_sendAgain_2 : decode c_Y_sendAgain 2 = .ok (.iconst 1, 1) := by decide +kernel
theorem d_Y_sendAgain_3 : decode c_Y_sendAgain 3 = .ok (.istore 4, 2) := by decide +kernel
theorem d_Y_sendAgain_5 : decode c_Y_sendAgain 5 = .ok (.iload 4, 2) := by decide +kernel
theorem d_Y_sendAgain_7 : decode c_Y_sendAgain 7 = .ok (.bipush 48, 2) := by decide +kernel
theorem d_Y_sendAgain_9 : decode c_Y_sendAgain 9 = .ok (.if_icmp .gt 87, 3) := by decide +kernel
theorem d_Y_sendAgain_12 : decode c_Y_sendAgain 12 = .ok (.aload_n 0, 1) := by decide +kernel
theorem d_Y_sendAgain_13 : decode c_Y_sendAgain 13 = .ok (.getfield 68, 3) := by decide +kernel
theorem d_Y_sendAgain_16 : decode c_Y_sendAgain 16 = .ok (.iload_n 2, 1) := by decide +kernel
theorem d_Y_sendAgain_17 : decode c_Y_sendAgain 17 = .ok (.laload, 1) := by decide +kernel
theorem d_Y_sendAgain_18 : decode c_Y_sendAgain 18 = .ok (.iload 4, 2) := by decide +kernel
theorem d_Y_sendAgain_20 : decode c_Y_sendAgain 20 = .ok (.lshr, 1) := by decide +kernel
theorem d_Y_sendAgain_21 : decode c_Y_sendAgain 21 = .ok (.lconst 1, 1) := by decide +kernel
theorem d_Y_sendAgain_22 : decode c_Y_sendAgain 22 = .ok (.land, 1) := by decide +kernel
theorem d_Y_sendAgain_23 : decode c_Y_sendAgain 23 = .ok (.lconst 1, 1) := by decide +kernel
theorem d_Y_sendAgain_24 : decode c_Y_sendAgain 24 = .ok (.lcmp, 1) := by decide +kernel
theorem d_Y_sendAgain_25 : decode c_Y_sendAgain 25 = .ok (.ifCond .ne 7, 3) := by decide +kernel
theorem d_Y_sendAgain_28 : decode c_Y_sendAgain 28 = .ok (.iconst 1, 1) := by decide +kernel
theorem d_Y_sendAgain_29 : decode c_Y_sendAgain 29 = .ok (.goto 4, 3) := by decide +kernel
theorem d_Y_sendAgain_32 : decode c_Y_sendAgain 32 = .ok (.iconst 0, 1) := by decide +kernel
theorem d_Y_sendAgain_33 : decode c_Y_sendAgain 33 = .ok (.istore 5, 2) := by decide +kernel
theorem d_Y_sendAgain_35 : decode c_Y_sendAgain 35 = .ok (.iload 5, 2) := by decide +kernel
theorem d_Y_sendAgain_37 : decode c_Y_sendAgain 37 = .ok (.ifCond .eq 53, 3) := by decide +kernel
theorem d_Y_sendAgain_40 : decode c_Y_sendAgain 40 = .ok (.aload_n 0, 1) := by decide +kernel
theorem d_Y_sendAgain_41 : decode c_Y_sendAgain 41 = .ok (.iload_n 1, 1) := by decide +kernel
theorem d_Y_sendAgain_42 : decode c_Y_sendAgain 42 = .ok (.iload 4, 2) := by decide +kernel
theorem d_Y_sendAgain_44 : decode c_Y_sendAgain 44 = .ok (.invokevirtual 87, 3) := by decide +kernel
theorem d_Y_sendAgain_47 : decode c_Y_sendAgain 47 = .ok (.ifCond .eq 43, 3) := by decide +kernel
theorem d_Y_sendAgain_50 : decode c_Y_sendAgain 50 = .ok (.aload_n 0, 1) := by decide +kernel
theorem d_Y_sendAgain_51 : decode c_Y_sendAgain 51 = .ok (.getfield 68, 3) := by decide +kernel
theorem d_Y_sendAgain_54 : decode c_Y_sendAgain 54 = .ok (.iload_n 2, 1) := by decide +kernel
theorem d_Y_sendAgain_55 : decode c_Y_sendAgain 55 = .ok (.aload_n 0, 1) := by decide +kernel
theorem d_Y_sendAgain_56 : decode c_Y_sendAgain 56 = .ok (.getfield 68, 3) := by decide +kernel
theorem d_Y_sendAgain_59 : decode c_Y_sendAgain 59 = .ok (.iload_n 2, 1) := by decide +kernel
theorem d_Y_sendAgain_60 : decode c_Y_sendAgain 60 = .ok (.laload, 1) := by decide +kernel
theorem d_Y_sendAgain_61 : decode c_Y_sendAgain 61 = .ok (.lconst 1, 1) := by decide +kernel
theorem d_Y_sendAgain_62 : decode c_Y_sendAgain 62 = .ok (.iload 4, 2) := by decide +kernel
theorem d_Y_sendAgain_64 : decode c_Y_sendAgain 64 = .ok (.lshl, 1) := by decide +kernel
theorem d_Y_sendAgain_65 : decode c_Y_sendAgain 65 = .ok (.ldc2_w 105, 3) := by decide +kernel
theorem d_Y_sendAgain_68 : decode c_Y_sendAgain 68 = .ok (.lxor, 1) := by decide +kernel
theorem d_Y_sendAgain_69 : decode c_Y_sendAgain 69 = .ok (.land, 1) := by decide +kernel
theorem d_Y_sendAgain_70 : decode c_Y_sendAgain 70 = .ok (.lastore, 1) := by decide +kernel
theorem d_Y_sendAgain_71 : decode c_Y_sendAgain 71 = .ok (.aload_n 0, 1) := by decide +kernel
theorem d_Y_sendAgain_72 : decode c_Y_sendAgain 72 = .ok (.iload_n 2, 1) := by decide +kernel
theorem d_Y_sendAgain_73 : decode c_Y_sendAgain 73 = .ok (.iload 4, 2) := by decide +kernel
theorem d_Y_sendAgain_75 : decode c_Y_sendAgain 75 = .ok (.invokevirtual 83, 3) := by decide +kernel
theorem d_Y_sendAgain_78 : decode c_Y_sendAgain 78 = .ok (.istore 6, 2) := by decide +kernel
theorem d_Y_sendAgain_80 : decode c_Y_sendAgain 80 = .ok (.aload_n 0, 1) := by decide +kernel
theorem d_Y_sendAgain_81 : decode c_Y_sendAgain 81 = .ok (.iload_n 1, 1) := by decide +kernel
theorem d_Y_sendAgain_82 : decode c_Y_sendAgain 82 = .ok (.iload 6, 2) := by decide +kernel
theorem d_Y_sendAgain_84 : decode c_Y_sendAgain 84 = .ok (.invokevirtual 107, 3) := by decide +kernel
theorem d_Y_sendAgain_87 : decode c_Y_sendAgain 87 = .ok (.iinc 3 1, 3) := by decide +kernel
theorem d_Y_sendAgain_90 : decode c_Y_sendAgain 90 = .ok (.iinc 4 1, 3) := by decide +kernel
theorem d_Y_sendAgain_93 : decode c_Y_sendAgain 93 = .ok (.goto (-88), 3) := by decide +kernel
theorem d_Y_sendAgain_96 : decode c_Y_sendAgain 96 = .ok (.iload_n 3, 1) := by decide +kernel
theorem d_Y_sendAgain_97 : decode c_Y_sendAgain 97 = .ok (.ireturn, 1) := by decide +kernel
theorem d_Y_sendNew_0 : decode c_Y_sendNew 0 = .ok (.iconst 0, 1) := by decide +kernel
theorem d_Y_sendNew_1 : decode c_Y_sendNew 1 = .ok (.istore_n 3, 1) := by decide +kernel
theorem d_Y_sendNew_2 : decode c_Y_sendNew 2 = .ok (.iconst 0, 1) := by decide +kernel
theorem d_Y_sendNew_3 : decode c_Y_sendNew 3 = .ok (.istore 4, 2) := by decide +kernel
theorem d_Y_sendNew_5 : decode c_Y_sendNew 5 = .ok (.iload 4, 2) := by decide +kernel
theorem d_Y_sendNew_7 : decode c_Y_sendNew 7 = .ok (.iconst 2, 1) := by decide +kernel
theorem d_Y_sendNew_8 : decode c_Y_sendNew 8 = .ok (.if_icmp .ge 62, 3) := by decide +kernel
theorem d_Y_sendNew_11 : decode c_Y_sendNew 11 = .ok (.aload_n 0, 1) := by decide +kernel
theorem d_Y_sendNew_12 : decode c_Y_sendNew 12 = .ok (.iload_n 1, 1) := by decide +kernel
theorem d_Y_sendNew_13 : decode c_Y_sendNew 13 = .ok (.invokevirtual 110, 3) := by decide +kernel
theorem d_Y_sendNew_16 : decode c_Y_sendNew 16 = .ok (.istore 5, 2) := by decide +kernel
theorem d_Y_sendNew_18 : decode c_Y_sendNew 18 = .ok (.iload 5, 2) := by decide +kernel
theorem d_Y_sendNew_20 : decode c_Y_sendNew 20 = .ok (.ifCond .le 44, 3) := by decide +kernel
theorem d_Y_sendNew_23 : decode c_Y_sendNew 23 = .ok (.aload_n 0, 1) := by decide +kernel
theorem d_Y_sendNew_24 : decode c_Y_sendNew 24 = .ok (.getfield 59, 3) := by decide +kernel
theorem d_Y_sendNew_27 : decode c_Y_sendNew 27 = .ok (.iload_n 2, 1) := by decide +kernel
theorem d_Y_sendNew_28 : decode c_Y_sendNew 28 = .ok (.dup2, 1) := by decide +kernel
theorem d_Y_sendNew_29 : decode c_Y_sendNew 29 = .ok (.iaload, 1) := by decide +kernel
theorem d_Y_sendNew_30 : decode c_Y_sendNew 30 = .ok (.iconst 1, 1) := by decide +kernel
theorem d_Y_sendNew_31 : decode c_Y_sendNew 31 = .ok (.iadd, 1) := by decide +kernel
theorem d_Y_sendNew_32 : decode c_Y_sendNew 32 = .ok (.iastore, 1) := by decide +kernel
theorem d_Y_sendNew_33 : decode c_Y_sendNew 33 = .ok (.aload_n 0, 1) := by decide +kernel
theorem d_Y_sendNew_34 : decode c_Y_sendNew 34 = .ok (.getfield 53, 3) := by decide +kernel
theorem d_Y_sendNew_37 : decode c_Y_sendNew 37 = .ok (.iload 5, 2) := by decide +kernel
theorem d_Y_sendNew_39 : decode c_Y_sendNew 39 = .ok (.aload_n 0, 1) := by decide +kernel
theorem d_Y_sendNew_40 : decode c_Y_sendNew 40 = .ok (.getfield 59, 3) := by decide +kernel
theorem d_Y_sendNew_43 : decode c_Y_sendNew 43 = .ok (.iload_n 2, 1) := by decide +kernel
theorem d_Y_sendNew_44 : decode c_Y_sendNew 44 = .ok (.iaload, 1) := by decide +kernel
theorem d_Y_sendNew_45 : decode c_Y_sendNew 45 = .ok (.iastore, 1) := by decide +kernel
theorem d_Y_sendNew_46 : decode c_Y_sendNew 46 = .ok (.aload_n 0, 1) := by decide +kernel
theorem d_Y_sendNew_47 : decode c_Y_sendNew 47 = .ok (.getfield 50, 3) := by decide +kernel
theorem d_Y_sendNew_50 : decode c_Y_sendNew 50 = .ok (.iload 5, 2) := by decide +kernel
theorem d_Y_sendNew_52 : decode c_Y_sendNew 52 = .ok (.iload_n 2, 1) := by decide +kernel
theorem d_Y_sendNew_53 : decode c_Y_sendNew 53 = .ok (.iastore, 1) := by decide +kernel
theorem d_Y_sendNew_54 : decode c_Y_sendNew 54 = .ok (.aload_n 0, 1) := by decide +kernel
theorem d_Y_sendNew_55 : decode c_Y_sendNew 55 = .ok (.iload_n 1, 1) := by decide +kernel
theorem d_Y_sendNew_56 : decode c_Y_sendNew 56 = .ok (.iload 5, 2) := by decide +kernel
theorem d_Y_sendNew_58 : decode c_Y_sendNew 58 = .ok (.invokevirtual 107, 3) := by decide +kernel
theorem d_Y_sendNew_61 : decode c_Y_sendNew 61 = .ok (.iinc 3 1, 3) := by decide +kernel
theorem d_Y_sendNew_64 : decode c_Y_sendNew 64 = .ok (.iinc 4 1, 3) := by decide +kernel
theorem d_Y_sendNew_67 : decode c_Y_sendNew 67 = .ok (.goto (-62), 3) := by decide +kernel
theorem d_Y_sendNew_70 : decode c_Y_sendNew 70 = .ok (.iload_n 3, 1) := by decide +kernel
theorem d_Y_sendNew_71 : decode c_Y_sendNew 71 = .ok (.ireturn, 1) := by decide +kernel
theorem d_Y_stranger_0 : decode c_Y_stranger 0 = .ok (.iconst 0, 1) := by decide +kernel
theorem d_Y_stranger_1 : decode c_Y_stranger 1 = .ok (.istore_n 2, 1) := by decide +kernel
theorem d_Y_stranger_2 : decode c_Y_stranger 2 = .ok (.iconst 0, 1) := by decide +kernel
theorem d_Y_stranger_3 : decode c_Y_stranger 3 = .ok (.istore_n 3, 1) := by decide +kernel
theorem d_Y_stranger_4 : decode c_Y_stranger 4 = .ok (.iload_n 3, 1) := by decide +kernel
theorem d_Y_stranger_5 : decode c_Y_stranger 5 = .ok (.iconst 5, 1) := by decide +kernel
theorem d_Y_stranger_6 : decode c_Y_stranger 6 = .ok (.if_icmp .ge 58, 3) := by decide +kernel
theorem d_Y_stranger_9 : decode c_Y_stranger 9 = .ok (.iload_n 2, 1) := by decide +kernel
theorem d_Y_stranger_10 : decode c_Y_stranger 10 = .ok (.ifCond .ne 42, 3) := by decide +kernel
theorem d_Y_stranger_13 : decode c_Y_stranger 13 = .ok (.aload_n 0, 1) := by decide +kernel
theorem d_Y_stranger_14 : decode c_Y_stranger 14 = .ok (.getfield 7, 3) := by decide +kernel
theorem d_Y_stranger_17 : decode c_Y_stranger 17 = .ok (.iload_n 3, 1) := by decide +kernel
theorem d_Y_stranger_18 : decode c_Y_stranger 18 = .ok (.baload, 1) := by decide +kernel
theorem d_Y_stranger_19 : decode c_Y_stranger 19 = .ok (.ifCond .eq 37, 3) := by decide +kernel
theorem d_Y_stranger_22 : decode c_Y_stranger 22 = .ok (.aload_n 0, 1) := by decide +kernel
theorem d_Y_stranger_23 : decode c_Y_stranger 23 = .ok (.getfield 13, 3) := by decide +kernel
theorem d_Y_stranger_26 : decode c_Y_stranger 26 = .ok (.iload_n 3, 1) := by decide +kernel
theorem d_Y_stranger_27 : decode c_Y_stranger 27 = .ok (.iaload, 1) := by decide +kernel
theorem d_Y_stranger_28 : decode c_Y_stranger 28 = .ok (.aload_n 0, 1) := by decide +kernel
theorem d_Y_stranger_29 : decode c_Y_stranger 29 = .ok (.getfield 13, 3) := by decide +kernel
theorem d_Y_stranger_32 : decode c_Y_stranger 32 = .ok (.iload_n 1, 1) := by decide +kernel
theorem d_Y_stranger_33 : decode c_Y_stranger 33 = .ok (.iaload, 1) := by decide +kernel
theorem d_Y_stranger_34 : decode c_Y_stranger 34 = .ok (.if_icmp .ne 22, 3) := by decide +kernel
theorem d_Y_stranger_37 : decode c_Y_stranger 37 = .ok (.aload_n 0, 1) := by decide +kernel
theorem d_Y_stranger_38 : decode c_Y_stranger 38 = .ok (.getfield 17, 3) := by decide +kernel
theorem d_Y_stranger_41 : decode c_Y_stranger 41 = .ok (.iload_n 3, 1) := by decide +kernel
theorem d_Y_stranger_42 : decode c_Y_stranger 42 = .ok (.iaload, 1) := by decide +kernel
theorem d_Y_stranger_43 : decode c_Y_stranger 43 = .ok (.aload_n 0, 1) := by decide +kernel
theorem d_Y_stranger_44 : decode c_Y_stranger 44 = .ok (.getfield 17, 3) := by decide +kernel
theorem d_Y_stranger_47 : decode c_Y_stranger 47 = .ok (.iload_n 1, 1) := by decide +kernel
theorem d_Y_stranger_48 : decode c_Y_stranger 48 = .ok (.iaload, 1) := by decide +kernel
theorem d_Y_stranger_49 : decode c_Y_stranger 49 = .ok (.if_icmp .eq 7, 3) := by decide +kernel
theorem d_Y_stranger_52 : decode c_Y_stranger 52 = .ok (.iconst 1, 1) := by decide +kernel
theorem d_Y_stranger_53 : decode c_Y_stranger 53 = .ok (.goto 4, 3) := by decide +kernel
theorem d_Y_stranger_56 : decode c_Y_stranger 56 = .ok (.iconst 0, 1) := by decide +kernel
theorem d_Y_stranger_57 : decode c_Y_stranger 57 = .ok (.istore_n 2, 1) := by decide +kernel
theorem d_Y_stranger_58 : decode c_Y_stranger 58 = .ok (.iinc 3 1, 3) := by decide +kernel
theorem d_Y_stranger_61 : decode c_Y_stranger 61 = .ok (.goto (-57), 3) := by decide +kernel
theorem d_Y_stranger_64 : decode c_Y_stranger 64 = .ok (.iload_n 2, 1) := by decide +kernel
theorem d_Y_stranger_65 : decode c_Y_stranger 65 = .ok (.ireturn, 1) := by decide +kernel
theorem d_Y_passOn_0 : decode c_Y_passOn 0 = .ok (.iload_n 1, 1) := by decide +kernel
theorem d_Y_passOn_1 : decode c_Y_passOn 1 = .ok (.istore_n 3, 1) := by decide +kernel
theorem d_Y_passOn_2 : decode c_Y_passOn 2 = .ok (.iconst 4, 1) := by decide +kernel
theorem d_Y_passOn_3 : decode c_Y_passOn 3 = .ok (.istore 4, 2) := by decide +kernel
theorem d_Y_passOn_5 : decode c_Y_passOn 5 = .ok (.iload 4, 2) := by decide +kernel
theorem d_Y_passOn_7 : decode c_Y_passOn 7 = .ok (.iconst 1, 1) := by decide +kernel
theorem d_Y_passOn_8 : decode c_Y_passOn 8 = .ok (.if_icmp .lt 39, 3) := by decide +kernel
theorem d_Y_passOn_11 : decode c_Y_passOn 11 = .ok (.iload_n 1, 1) := by decide +kernel
theorem d_Y_passOn_12 : decode c_Y_passOn 12 = .ok (.iload 4, 2) := by decide +kernel
theorem d_Y_passOn_14 : decode c_Y_passOn 14 = .ok (.iadd, 1) := by decide +kernel
theorem d_Y_passOn_15 : decode c_Y_passOn 15 = .ok (.iconst 5, 1) := by decide +kernel
theorem d_Y_passOn_16 : decode c_Y_passOn 16 = .ok (.irem, 1) := by decide +kernel
theorem d_Y_passOn_17 : decode c_Y_passOn 17 = .ok (.istore 5, 2) := by decide +kernel
theorem d_Y_passOn_19 : decode c_Y_passOn 19 = .ok (.aload_n 0, 1) := by decide +kernel
theorem d_Y_passOn_20 : decode c_Y_passOn 20 = .ok (.getfield 62, 3) := by decide +kernel
theorem d_Y_passOn_23 : decode c_Y_passOn 23 = .ok (.iload_n 2, 1) := by decide +kernel
theorem d_Y_passOn_24 : decode c_Y_passOn 24 = .ok (.iaload, 1) := by decide +kernel
theorem d_Y_passOn_25 : decode c_Y_passOn 25 = .ok (.iload 5, 2) := by decide +kernel
theorem d_Y_passOn_27 : decode c_Y_passOn 27 = .ok (.ishr, 1) := by decide +kernel
theorem d_Y_passOn_28 : decode c_Y_passOn 28 = .ok (.iconst 1, 1) := by decide +kernel
theorem d_Y_passOn_29 : decode c_Y_passOn 29 = .ok (.iand, 1) := by decide +kernel
theorem d_Y_passOn_30 : decode c_Y_passOn 30 = .ok (.iconst 1, 1) := by decide +kernel
theorem d_Y_passOn_31 : decode c_Y_passOn 31 = .ok (.if_icmp .ne 8, 3) := by decide +kernel
theorem d_Y_passOn_34 : decode c_Y_passOn 34 = .ok (.iload 5, 2) := by decide +kernel
theorem d_Y_passOn_36 : decode c_Y_passOn 36 = .ok (.goto 4, 3) := by decide +kernel
theorem d_Y_passOn_39 : decode c_Y_passOn 39 = .ok (.iload_n 3, 1) := by decide +kernel
theorem d_Y_passOn_40 : decode c_Y_passOn 40 = .ok (.istore_n 3, 1) := by decide +kernel
theorem d_Y_passOn_41 : decode c_Y_passOn 41 = .ok (.iinc 4 (-1), 3) := by decide +kernel
theorem d_Y_passOn_44 : decode c_Y_passOn 44 = .ok (.goto (-39), 3) := by decide +kernel
theorem d_Y_passOn_47 : decode c_Y_passOn 47 = .ok (.aload_n 0, 1) := by decide +kernel
theorem d_Y_passOn_48 : decode c_Y_passOn 48 = .ok (.getfield 56, 3) := by decide +kernel
theorem d_Y_passOn_51 : decode c_Y_passOn 51 = .ok (.iload_n 2, 1) := by decide +kernel
theorem d_Y_passOn_52 : decode c_Y_passOn 52 = .ok (.iload_n 3, 1) := by decide +kernel
theorem d_Y_passOn_53 : decode c_Y_passOn 53 = .ok (.iload_n 1, 1) := by decide +kernel
theorem d_Y_passOn_54 : decode c_Y_passOn 54 = .ok (.if_icmp .eq 12, 3) := by decide +kernel
theorem d_Y_passOn_57 : decode c_Y_passOn 57 = .ok (.aload_n 0, 1) := by decide +kernel
theorem d_Y_passOn_58 : decode c_Y_passOn 58 = .ok (.iload_n 3, 1) := by decide +kernel
theorem d_Y_passOn_59 : decode c_Y_passOn 59 = .ok (.iload_n 1, 1) := by decide +kernel
theorem d_Y_passOn_60 : decode c_Y_passOn 60 = .ok (.invokevirtual 98, 3) := by decide +kernel
theorem d_Y_passOn_63 : decode c_Y_passOn 63 = .ok (.ifCond .eq 7, 3) := by decide +kernel
theorem d_Y_passOn_66 : decode c_Y_passOn 66 = .ok (.iload_n 3, 1) := by decide +kernel
theorem d_Y_passOn_67 : decode c_Y_passOn 67 = .ok (.goto 4, 3) := by decide +kernel
theorem d_Y_passOn_70 : decode c_Y_passOn 70 = .ok (.iconst (-1), 1) := by decide +kernel
theorem d_Y_passOn_71 : decode c_Y_passOn 71 = .ok (.iastore, 1) := by decide +kernel
theorem d_Y_passOn_72 : decode c_Y_passOn 72 = .ok (.return_, 1) := by decide +kernel
theorem d_Y_visit_0 : decode c_Y_visit 0 = .ok (.aload_n 0, 1) := by decide +kernel
theorem d_Y_visit_1 : decode c_Y_visit 1 = .ok (.iload_n 1, 1) := by decide +kernel
theorem d_Y_visit_2 : decode c_Y_visit 2 = .ok (.invokevirtual 91, 3) := by decide +kernel
theorem d_Y_visit_5 : decode c_Y_visit 5 = .ok (.istore_n 2, 1) := by decide +kernel
theorem d_Y_visit_6 : decode c_Y_visit 6 = .ok (.iload_n 2, 1) := by decide +kernel
theorem d_Y_visit_7 : decode c_Y_visit 7 = .ok (.ifCond .eq 5, 3) := by decide +kernel
theorem d_Y_visit_10 : decode c_Y_visit 10 = .ok (.iload_n 2, 1) := by decide +kernel
theorem d_Y_visit_11 : decode c_Y_visit 11 = .ok (.ireturn, 1) := by decide +kernel
theorem d_Y_visit_12 : decode c_Y_visit 12 = .ok (.aload_n 0, 1) := by decide +kernel
theorem d_Y_visit_13 : decode c_Y_visit 13 = .ok (.getfield 17, 3) := by decide +kernel
theorem d_Y_visit_16 : decode c_Y_visit 16 = .ok (.iload_n 1, 1) := by decide +kernel
theorem d_Y_visit_17 : decode c_Y_visit 17 = .ok (.iaload, 1) := by decide +kernel
theorem d_Y_visit_18 : decode c_Y_visit 18 = .ok (.istore_n 3, 1) := by decide +kernel
theorem d_Y_visit_19 : decode c_Y_visit 19 = .ok (.aload_n 0, 1) := by decide +kernel
theorem d_Y_visit_20 : decode c_Y_visit 20 = .ok (.getfield 56, 3) := by decide +kernel
theorem d_Y_visit_23 : decode c_Y_visit 23 = .ok (.iload_n 3, 1) := by decide +kernel
theorem d_Y_visit_24 : decode c_Y_visit 24 = .ok (.iaload, 1) := by decide +kernel
theorem d_Y_visit_25 : decode c_Y_visit 25 = .ok (.iload_n 1, 1) := by decide +kernel
theorem d_Y_visit_26 : decode c_Y_visit 26 = .ok (.if_icmp .eq 5, 3) := by decide +kernel
theorem d_Y_visit_29 : decode c_Y_visit 29 = .ok (.iconst (-1), 1) := by decide +kernel
theorem d_Y_visit_30 : decode c_Y_visit 30 = .ok (.ireturn, 1) := by decide +kernel
theorem d_Y_visit_31 : decode c_Y_visit 31 = .ok (.aload_n 0, 1) := by decide +kernel
theorem d_Y_visit_32 : decode c_Y_visit 32 = .ok (.iload_n 1, 1) := by decide +kernel
theorem d_Y_visit_33 : decode c_Y_visit 33 = .ok (.iload_n 3, 1) := by decide +kernel
theorem d_Y_visit_34 : decode c_Y_visit 34 = .ok (.invokevirtual 113, 3) := by decide +kernel
theorem d_Y_visit_37 : decode c_Y_visit 37 = .ok (.istore 4, 2) := by decide +kernel
theorem d_Y_visit_39 : decode c_Y_visit 39 = .ok (.aload_n 0, 1) := by decide +kernel
theorem d_Y_visit_40 : decode c_Y_visit 40 = .ok (.iload_n 1, 1) := by decide +kernel
theorem d_Y_visit_41 : decode c_Y_visit 41 = .ok (.iload_n 3, 1) := by decide +kernel
theorem d_Y_visit_42 : decode c_Y_visit 42 = .ok (.invokevirtual 116, 3) := by decide +kernel
theorem d_Y_visit_45 : decode c_Y_visit 45 = .ok (.istore 5, 2) := by decide +kernel
theorem d_Y_visit_47 : decode c_Y_visit 47 = .ok (.aload_n 0, 1) := by decide +kernel
theorem d_Y_visit_48 : decode c_Y_visit 48 = .ok (.getfield 65, 3) := by decide +kernel
theorem d_Y_visit_51 : decode c_Y_visit 51 = .ok (.iconst 5, 1) := by decide +kernel
theorem d_Y_visit_52 : decode c_Y_visit 52 = .ok (.iload_n 3, 1) := by decide +kernel
theorem d_Y_visit_53 : decode c_Y_visit 53 = .ok (.imul, 1) := by decide +kernel
theorem d_Y_visit_54 : decode c_Y_visit 54 = .ok (.iload_n 1, 1) := by decide +kernel
theorem d_Y_visit_55 : decode c_Y_visit 55 = .ok (.iadd, 1) := by decide +kernel
theorem d_Y_visit_56 : decode c_Y_visit 56 = .ok (.aload_n 0, 1) := by decide +kernel
theorem d_Y_visit_57 : decode c_Y_visit 57 = .ok (.iload_n 1, 1) := by decide +kernel
theorem d_Y_visit_58 : decode c_Y_visit 58 = .ok (.invokevirtual 119, 3) := by decide +kernel
theorem d_Y_visit_61 : decode c_Y_visit 61 = .ok (.iastore, 1) := by decide +kernel
theorem d_Y_visit_62 : decode c_Y_visit 62 = .ok (.iconst 1, 1) := by decide +kernel
theorem d_Y_visit_63 : decode c_Y_visit 63 = .ok (.istore 6, 2) := by decide +kernel
theorem d_Y_visit_65 : decode c_Y_visit 65 = .ok (.iload 6, 2) := by decide +kernel
theorem d_Y_visit_67 : decode c_Y_visit 67 = .ok (.aload_n 0, 1) := by decide +kernel
theorem d_Y_visit_68 : decode c_Y_visit 68 = .ok (.getfield 59, 3) := by decide +kernel
theorem d_Y_visit_71 : decode c_Y_visit 71 = .ok (.iload_n 3, 1) := by decide +kernel
theorem d_Y_visit_72 : decode c_Y_visit 72 = .ok (.iaload, 1) := by decide +kernel
theorem d_Y_visit_73 : decode c_Y_visit 73 = .ok (.if_icmp .gt 45, 3) := by decide +kernel
theorem d_Y_visit_76 : decode c_Y_visit 76 = .ok (.aload_n 0, 1) := by decide +kernel
theorem d_Y_visit_77 : decode c_Y_visit 77 = .ok (.getfield 68, 3) := by decide +kernel
theorem d_Y_visit_80 : decode c_Y_visit 80 = .ok (.iload_n 3, 1) := by decide +kernel
theorem d_Y_visit_81 : decode c_Y_visit 81 = .ok (.aload_n 0, 1) := by decide +kernel
theorem d_Y_visit_82 : decode c_Y_visit 82 = .ok (.iload_n 1, 1) := by decide +kernel
theorem d_Y_visit_83 : decode c_Y_visit 83 = .ok (.iload 6, 2) := by decide +kernel
theorem d_Y_visit_85 : decode c_Y_visit 85 = .ok (.invokevirtual 87, 3) := by decide +kernel
theorem d_Y_visit_88 : decode c_Y_visit 88 = .ok (.ifCond .eq 12, 3) := by decide +kernel
theorem d_Y_visit_91 : decode c_Y_visit 91 = .ok (.aload_n 0, 1) := by decide +kernel
theorem d_Y_visit_92 : decode c_Y_visit 92 = .ok (.getfield 68, 3) := by decide +kernel
theorem d_Y_visit_95 : decode c_Y_visit 95 = .ok (.iload_n 3, 1) := by decide +kernel
theorem d_Y_visit_96 : decode c_Y_visit 96 = .ok (.laload, 1) := by decide +kernel
theorem d_Y_visit_97 : decode c_Y_visit 97 = .ok (.goto 14, 3) := by decide +kernel
theorem d_Y_visit_100 : decode c_Y_visit 100 = .ok (.aload_n 0, 1) := by decide +kernel
theorem d_Y_visit_101 : decode c_Y_visit 101 = .ok (.getfield 68, 3) := by decide +kernel
theorem d_Y_visit_104 : decode c_Y_visit 104 = .ok (.iload_n 3, 1) := by decide +kernel
theorem d_Y_visit_105 : decode c_Y_visit 105 = .ok (.laload, 1) := by decide +kernel
theorem d_Y_visit_106 : decode c_Y_visit 106 = .ok (.lconst 1, 1) := by decide +kernel
theorem d_Y_visit_107 : decode c_Y_visit 107 = .ok (.iload 6, 2) := by decide +kernel
theorem d_Y_visit_109 : decode c_Y_visit 109 = .ok (.lshl, 1) := by decide +kernel
theorem d_Y_visit_110 : decode c_Y_visit 110 = .ok (.lor, 1) := by decide +kernel
theorem d_Y_visit_111 : decode c_Y_visit 111 = .ok (.lastore, 1) := by decide +kernel
theorem d_Y_visit_112 : decode c_Y_visit 112 = .ok (.iinc 6 1, 3) := by decide +kernel
theorem d_Y_visit_115 : decode c_Y_visit 115 = .ok (.goto (-50), 3) := by decide +kernel
theorem d_Y_visit_118 : decode c_Y_visit 118 = .ok (.bipush 48, 2) := by decide +kernel
theorem d_Y_visit_120 : decode c_Y_visit 120 = .ok (.istore 6, 2) := by decide +kernel
theorem d_Y_visit_122 : decode c_Y_visit 122 = .ok (.iconst 0, 1) := by decide +kernel
theorem d_Y_visit_123 : decode c_Y_visit 123 = .ok (.istore 7, 2) := by decide +kernel
theorem d_Y_visit_125 : decode c_Y_visit 125 = .ok (.iload 7, 2) := by decide +kernel
theorem d_Y_visit_127 : decode c_Y_visit 127 = .ok (.iconst 5, 1) := by decide +kernel
theorem d_Y_visit_128 : decode c_Y_visit 128 = .ok (.if_icmp .ge 70, 3) := by decide +kernel
theorem d_Y_visit_131 : decode c_Y_visit 131 = .ok (.aload_n 0, 1) := by decide +kernel
theorem d_Y_visit_132 : decode c_Y_visit 132 = .ok (.getfield 62, 3) := by decide +kernel
theorem d_Y_visit_135 : decode c_Y_visit 135 = .ok (.iload_n 3, 1) := by decide +kernel
theorem d_Y_visit_136 : decode c_Y_visit 136 = .ok (.iaload, 1) := by decide +kernel
theorem d_Y_visit_137 : decode c_Y_visit 137 = .ok (.iload 7, 2) := by decide +kernel
theorem d_Y_visit_139 : decode c_Y_visit 139 = .ok (.ishr, 1) := by decide +kernel
theorem d_Y_visit_140 : decode c_Y_visit 140 = .ok (.iconst 1, 1) := by decide +kernel
theorem d_Y_visit_141 : decode c_Y_visit 141 = .ok (.iand, 1) := by decide +kernel
theorem d_Y_visit_142 : decode c_Y_visit 142 = .ok (.iconst 1, 1) := by decide +kernel
theorem d_Y_visit_143 : decode c_Y_visit 143 = .ok (.if_icmp .ne 7, 3) := by decide +kernel
theorem d_Y_visit_146 : decode c_Y_visit 146 = .ok (.iconst 1, 1) := by decide +kernel
theorem d_Y_visit_147 : decode c_Y_visit 147 = .ok (.goto 4, 3) := by decide +kernel
theorem d_Y_visit_150 : decode c_Y_visit 150 = .ok (.iconst 0, 1) := by decide +kernel
theorem d_Y_visit_151 : decode c_Y_visit 151 = .ok (.istore 8, 2) := by decide +kernel
theorem d_Y_visit_153 : decode c_Y_visit 153 = .ok (.iload 8, 2) := by decide +kernel
theorem d_Y_visit_155 : decode c_Y_visit 155 = .ok (.ifCond .eq 33, 3) := by decide +kernel
theorem d_Y_visit_158 : decode c_Y_visit 158 = .ok (.aload_n 0, 1) := by decide +kernel
theorem d_Y_visit_159 : decode c_Y_visit 159 = .ok (.getfield 65, 3) := by decide +kernel
theorem d_Y_visit_162 : decode c_Y_visit 162 = .ok (.iconst 5, 1) := by decide +kernel
theorem d_Y_visit_163 : decode c_Y_visit 163 = .ok (.iload_n 3, 1) := by decide +kernel
theorem d_Y_visit_164 : decode c_Y_visit 164 = .ok (.imul, 1) := by decide +kernel
theorem d_Y_visit_165 : decode c_Y_visit 165 = .ok (.iload 7, 2) := by decide +kernel
theorem d_Y_visit_167 : decode c_Y_visit 167 = .ok (.iadd, 1) := by decide +kernel
theorem d_Y_visit_168 : decode c_Y_visit 168 = .ok (.iaload, 1) := by decide +kernel
theorem d_Y_visit_169 : decode c_Y_visit 169 = .ok (.iload 6, 2) := by decide +kernel
theorem d_Y_visit_171 : decode c_Y_visit 171 = .ok (.if_icmp .ge 17, 3) := by decide +kernel
theorem d_Y_visit_174 : decode c_Y_visit 174 = .ok (.aload_n 0, 1) := by decide +kernel
theorem d_Y_visit_175 : decode c_Y_visit 175 = .ok (.getfield 65, 3) := by decide +kernel
theorem d_Y_visit_178 : decode c_Y_visit 178 = .ok (.iconst 5, 1) := by decide +kernel
theorem d_Y_visit_179 : decode c_Y_visit 179 = .ok (.iload_n 3, 1) := by decide +kernel
theorem d_Y_visit_180 : decode c_Y_visit 180 = .ok (.imul, 1) := by decide +kernel
theorem d_Y_visit_181 : decode c_Y_visit 181 = .ok (.iload 7, 2) := by decide +kernel
theorem d_Y_visit_183 : decode c_Y_visit 183 = .ok (.iadd, 1) := by decide +kernel
theorem d_Y_visit_184 : decode c_Y_visit 184 = .ok (.iaload, 1) := by decide +kernel
theorem d_Y_visit_185 : decode c_Y_visit 185 = .ok (.goto 5, 3) := by decide +kernel
theorem d_Y_visit_188 : decode c_Y_visit 188 = .ok (.iload 6, 2) := by decide +kernel
theorem d_Y_visit_190 : decode c_Y_visit 190 = .ok (.istore 6, 2) := by decide +kernel
theorem d_Y_visit_192 : decode c_Y_visit 192 = .ok (.iinc 7 1, 3) := by decide +kernel
theorem d_Y_visit_195 : decode c_Y_visit 195 = .ok (.goto (-70), 3) := by decide +kernel
theorem d_Y_visit_198 : decode c_Y_visit 198 = .ok (.aload_n 0, 1) := by decide +kernel
theorem d_Y_visit_199 : decode c_Y_visit 199 = .ok (.getfield 20, 3) := by decide +kernel
theorem d_Y_visit_202 : decode c_Y_visit 202 = .ok (.iload_n 1, 1) := by decide +kernel
theorem d_Y_visit_203 : decode c_Y_visit 203 = .ok (.iload 6, 2) := by decide +kernel
theorem d_Y_visit_205 : decode c_Y_visit 205 = .ok (.iastore, 1) := by decide +kernel
end
section
/-! decode rows, by program out of the listing -/
theorem d_Y_visit_206 : decode c_Y_visit 206 = .ok (.iconst 0, 1) := by decide +kernel
theorem d_Y_visit_207 : decode c_Y_visit 207 = .ok (.istore 7, 2) := by decide +kernel
theorem d_Y_visit_209 : decode c_Y_visit 209 = .ok (.iload 7, 2) := by decide +kernel
theorem d_Y_visit_211 : decode c_Y_visit 211 = .ok (.iconst 5, 1) := by decide +kernel
theorem d_Y_visit_212 : decode c_Y_visit 212 = .ok (.if_icmp .ge 36, 3) := by decide +kernel
theorem d_Y_visit_215 : decode c_Y_visit 215 = .ok (.aload_n 0, 1) := by decide +kernel
theorem d_Y_visit_216 : decode c_Y_visit 216 = .ok (.getfield 7, 3) := by decide +kernel
theorem d_Y_visit_219 : decode c_Y_visit 219 = .ok (.iload 7, 2) := by decide +kernel
theorem d_Y_visit_221 : decode c_Y_visit 221 = .ok (.baload, 1) := by decide +kernel
theorem d_Y_visit_222 : decode c_Y_visit 222 = .ok (.ifCond .eq 20, 3) := by decide +kernel
theorem d_Y_visit_225 : decode c_Y_visit 225 = .ok (.aload_n 0, 1) := by decide +kernel
theorem d_Y_visit_226 : decode c_Y_visit 226 = .ok (.getfield 17, 3) := by decide +kernel
theorem d_Y_visit_229 : decode c_Y_visit 229 = .ok (.iload 7, 2) := by decide +kernel
theorem d_Y_visit_231 : decode c_Y_visit 231 = .ok (.iaload, 1) := by decide +kernel
theorem d_Y_visit_232 : decode c_Y_visit 232 = .ok (.iload_n 3, 1) := by decide +kernel
theorem d_Y_visit_233 : decode c_Y_visit 233 = .ok (.if_icmp .ne 9, 3) := by decide +kernel
theorem d_Y_visit_236 : decode c_Y_visit 236 = .ok (.aload_n 0, 1) := by decide +kernel
theorem d_Y_visit_237 : decode c_Y_visit 237 = .ok (.iload 7, 2) := by decide +kernel
theorem d_Y_visit_239 : decode c_Y_visit 239 = .ok (.invokevirtual 122, 3) := by decide +kernel
theorem d_Y_visit_242 : decode c_Y_visit 242 = .ok (.iinc 7 1, 3) := by decide +kernel
theorem d_Y_visit_245 : decode c_Y_visit 245 = .ok (.goto (-36), 3) := by decide +kernel
theorem d_Y_visit_248 : decode c_Y_visit 248 = .ok (.aload_n 0, 1) := by decide +kernel
theorem d_Y_visit_249 : decode c_Y_visit 249 = .ok (.getfield 29, 3) := by decide +kernel
theorem d_Y_visit_252 : decode c_Y_visit 252 = .ok (.iload_n 1, 1) := by decide +kernel
theorem d_Y_visit_253 : decode c_Y_visit 253 = .ok (.iconst 0, 1) := by decide +kernel
theorem d_Y_visit_254 : decode c_Y_visit 254 = .ok (.iastore, 1) := by decide +kernel
theorem d_Y_visit_255 : decode c_Y_visit 255 = .ok (.aload_n 0, 1) := by decide +kernel
theorem d_Y_visit_256 : decode c_Y_visit 256 = .ok (.iload_n 1, 1) := by decide +kernel
theorem d_Y_visit_257 : decode c_Y_visit 257 = .ok (.invokevirtual 126, 3) := by decide +kernel
theorem d_Y_visit_260 : decode c_Y_visit 260 = .ok (.ifCond .eq 16, 3) := by decide +kernel
theorem d_Y_visit_263 : decode c_Y_visit 263 = .ok (.aload_n 0, 1) := by decide +kernel
theorem d_Y_visit_264 : decode c_Y_visit 264 = .ok (.aload_n 0, 1) := by decide +kernel
theorem d_Y_visit_265 : decode c_Y_visit 265 = .ok (.getfield 13, 3) := by decide +kernel
theorem d_Y_visit_268 : decode c_Y_visit 268 = .ok (.iload_n 1, 1) := by decide +kernel
theorem d_Y_visit_269 : decode c_Y_visit 269 = .ok (.iaload, 1) := by decide +kernel
theorem d_Y_visit_270 : decode c_Y_visit 270 = .ok (.invokevirtual 129, 3) := by decide +kernel
theorem d_Y_visit_273 : decode c_Y_visit 273 = .ok (.goto 9, 3) := by decide +kernel
theorem d_Y_visit_276 : decode c_Y_visit 276 = .ok (.aload_n 0, 1) := by decide +kernel
theorem d_Y_visit_277 : decode c_Y_visit 277 = .ok (.iload_n 1, 1) := by decide +kernel
theorem d_Y_visit_278 : decode c_Y_visit 278 = .ok (.iload_n 3, 1) := by decide +kernel
theorem d_Y_visit_279 : decode c_Y_visit 279 = .ok (.invokevirtual 132, 3) := by decide +kernel
theorem d_Y_visit_282 : decode c_Y_visit 282 = .ok (.iload 4, 2) := by decide +kernel
theorem d_Y_visit_284 : decode c_Y_visit 284 = .ok (.iload 5, 2) := by decide +kernel
theorem d_Y_visit_286 : decode c_Y_visit 286 = .ok (.iadd, 1) := by decide +kernel
theorem d_Y_visit_287 : decode c_Y_visit 287 = .ok (.ireturn, 1) := by decide +kernel
theorem d_Y_newRing_0 : decode c_Y_newRing 0 = .ok (.aload_n 0, 1) := by decide +kernel
theorem d_Y_newRing_1 : decode c_Y_newRing 1 = .ok (.dup, 1) := by decide +kernel
theorem d_Y_newRing_2 : decode c_Y_newRing 2 = .ok (.getfield 72, 3) := by decide +kernel
theorem d_Y_newRing_5 : decode c_Y_newRing 5 = .ok (.iconst 1, 1) := by decide +kernel
theorem d_Y_newRing_6 : decode c_Y_newRing 6 = .ok (.iadd, 1) := by decide +kernel
theorem d_Y_newRing_7 : decode c_Y_newRing 7 = .ok (.putfield 72, 3) := by decide +kernel
theorem d_Y_newRing_10 : decode c_Y_newRing 10 = .ok (.aload_n 0, 1) := by decide +kernel
theorem d_Y_newRing_11 : decode c_Y_newRing 11 = .ok (.getfield 62, 3) := by decide +kernel
theorem d_Y_newRing_14 : decode c_Y_newRing 14 = .ok (.aload_n 0, 1) := by decide +kernel
theorem d_Y_newRing_15 : decode c_Y_newRing 15 = .ok (.getfield 72, 3) := by decide +kernel
theorem d_Y_newRing_18 : decode c_Y_newRing 18 = .ok (.iload_n 1, 1) := by decide +kernel
theorem d_Y_newRing_19 : decode c_Y_newRing 19 = .ok (.iastore, 1) := by decide +kernel
theorem d_Y_newRing_20 : decode c_Y_newRing 20 = .ok (.aload_n 0, 1) := by decide +kernel
theorem d_Y_newRing_21 : decode c_Y_newRing 21 = .ok (.getfield 56, 3) := by decide +kernel
theorem d_Y_newRing_24 : decode c_Y_newRing 24 = .ok (.aload_n 0, 1) := by decide +kernel
theorem d_Y_newRing_25 : decode c_Y_newRing 25 = .ok (.getfield 72, 3) := by decide +kernel
theorem d_Y_newRing_28 : decode c_Y_newRing 28 = .ok (.iload_n 2, 1) := by decide +kernel
theorem d_Y_newRing_29 : decode c_Y_newRing 29 = .ok (.iastore, 1) := by decide +kernel
theorem d_Y_newRing_30 : decode c_Y_newRing 30 = .ok (.return_, 1) := by decide +kernel
theorem d_Y_enter_0 : decode c_Y_enter 0 = .ok (.aload_n 0, 1) := by decide +kernel
theorem d_Y_enter_1 : decode c_Y_enter 1 = .ok (.getfield 17, 3) := by decide +kernel
theorem d_Y_enter_4 : decode c_Y_enter 4 = .ok (.iload_n 1, 1) := by decide +kernel
theorem d_Y_enter_5 : decode c_Y_enter 5 = .ok (.iaload, 1) := by decide +kernel
theorem d_Y_enter_6 : decode c_Y_enter 6 = .ok (.istore_n 2, 1) := by decide +kernel
theorem d_Y_enter_7 : decode c_Y_enter 7 = .ok (.aload_n 0, 1) := by decide +kernel
theorem d_Y_enter_8 : decode c_Y_enter 8 = .ok (.getfield 56, 3) := by decide +kernel
theorem d_Y_enter_11 : decode c_Y_enter 11 = .ok (.iload_n 2, 1) := by decide +kernel
theorem d_Y_enter_12 : decode c_Y_enter 12 = .ok (.aload_n 0, 1) := by decide +kernel
theorem d_Y_enter_13 : decode c_Y_enter 13 = .ok (.getfield 56, 3) := by decide +kernel
theorem d_Y_enter_16 : decode c_Y_enter 16 = .ok (.iload_n 2, 1) := by decide +kernel
theorem d_Y_enter_17 : decode c_Y_enter 17 = .ok (.iaload, 1) := by decide +kernel
theorem d_Y_enter_18 : decode c_Y_enter 18 = .ok (.iload_n 1, 1) := by decide +kernel
theorem d_Y_enter_19 : decode c_Y_enter 19 = .ok (.if_icmp .ne 7, 3) := by decide +kernel
theorem d_Y_enter_22 : decode c_Y_enter 22 = .ok (.iconst (-1), 1) := by decide +kernel
theorem d_Y_enter_23 : decode c_Y_enter 23 = .ok (.goto 9, 3) := by decide +kernel
theorem d_Y_enter_26 : decode c_Y_enter 26 = .ok (.aload_n 0, 1) := by decide +kernel
theorem d_Y_enter_27 : decode c_Y_enter 27 = .ok (.getfield 56, 3) := by decide +kernel
theorem d_Y_enter_30 : decode c_Y_enter 30 = .ok (.iload_n 2, 1) := by decide +kernel
theorem d_Y_enter_31 : decode c_Y_enter 31 = .ok (.iaload, 1) := by decide +kernel
theorem d_Y_enter_32 : decode c_Y_enter 32 = .ok (.iastore, 1) := by decide +kernel
theorem d_Y_enter_33 : decode c_Y_enter 33 = .ok (.aload_n 0, 1) := by decide +kernel
theorem d_Y_enter_34 : decode c_Y_enter 34 = .ok (.getfield 17, 3) := by decide +kernel
theorem d_Y_enter_37 : decode c_Y_enter 37 = .ok (.iload_n 1, 1) := by decide +kernel
theorem d_Y_enter_38 : decode c_Y_enter 38 = .ok (.aload_n 0, 1) := by decide +kernel
theorem d_Y_enter_39 : decode c_Y_enter 39 = .ok (.getfield 72, 3) := by decide +kernel
theorem d_Y_enter_42 : decode c_Y_enter 42 = .ok (.iastore, 1) := by decide +kernel
theorem d_Y_enter_43 : decode c_Y_enter 43 = .ok (.aload_n 0, 1) := by decide +kernel
theorem d_Y_enter_44 : decode c_Y_enter 44 = .ok (.iload_n 1, 1) := by decide +kernel
theorem d_Y_enter_45 : decode c_Y_enter 45 = .ok (.invokevirtual 135, 3) := by decide +kernel
theorem d_Y_enter_48 : decode c_Y_enter 48 = .ok (.return_, 1) := by decide +kernel
theorem d_Y_clean_0 : decode c_Y_clean 0 = .ok (.iconst 1, 1) := by decide +kernel
theorem d_Y_clean_1 : decode c_Y_clean 1 = .ok (.istore_n 2, 1) := by decide +kernel
theorem d_Y_clean_2 : decode c_Y_clean 2 = .ok (.iload_n 2, 1) := by decide +kernel
theorem d_Y_clean_3 : decode c_Y_clean 3 = .ok (.bipush 48, 2) := by decide +kernel
theorem d_Y_clean_5 : decode c_Y_clean 5 = .ok (.if_icmp .gt 21, 3) := by decide +kernel
theorem d_Y_clean_8 : decode c_Y_clean 8 = .ok (.aload_n 0, 1) := by decide +kernel
theorem d_Y_clean_9 : decode c_Y_clean 9 = .ok (.getfield 32, 3) := by decide +kernel
theorem d_Y_clean_12 : decode c_Y_clean 12 = .ok (.bipush 49, 2) := by decide +kernel
theorem d_Y_clean_14 : decode c_Y_clean 14 = .ok (.iload_n 1, 1) := by decide +kernel
theorem d_Y_clean_15 : decode c_Y_clean 15 = .ok (.imul, 1) := by decide +kernel
theorem d_Y_clean_16 : decode c_Y_clean 16 = .ok (.iload_n 2, 1) := by decide +kernel
theorem d_Y_clean_17 : decode c_Y_clean 17 = .ok (.iadd, 1) := by decide +kernel
theorem d_Y_clean_18 : decode c_Y_clean 18 = .ok (.iconst 0, 1) := by decide +kernel
theorem d_Y_clean_19 : decode c_Y_clean 19 = .ok (.bastore, 1) := by decide +kernel
theorem d_Y_clean_20 : decode c_Y_clean 20 = .ok (.iinc 2 1, 3) := by decide +kernel
theorem d_Y_clean_23 : decode c_Y_clean 23 = .ok (.goto (-21), 3) := by decide +kernel
theorem d_Y_clean_26 : decode c_Y_clean 26 = .ok (.aload_n 0, 1) := by decide +kernel
theorem d_Y_clean_27 : decode c_Y_clean 27 = .ok (.getfield 20, 3) := by decide +kernel
theorem d_Y_clean_30 : decode c_Y_clean 30 = .ok (.iload_n 1, 1) := by decide +kernel
theorem d_Y_clean_31 : decode c_Y_clean 31 = .ok (.iconst 0, 1) := by decide +kernel
theorem d_Y_clean_32 : decode c_Y_clean 32 = .ok (.iastore, 1) := by decide +kernel
theorem d_Y_clean_33 : decode c_Y_clean 33 = .ok (.aload_n 0, 1) := by decide +kernel
theorem d_Y_clean_34 : decode c_Y_clean 34 = .ok (.getfield 23, 3) := by decide +kernel
theorem d_Y_clean_37 : decode c_Y_clean 37 = .ok (.iload_n 1, 1) := by decide +kernel
theorem d_Y_clean_38 : decode c_Y_clean 38 = .ok (.iconst 0, 1) := by decide +kernel
theorem d_Y_clean_39 : decode c_Y_clean 39 = .ok (.iastore, 1) := by decide +kernel
theorem d_Y_clean_40 : decode c_Y_clean 40 = .ok (.aload_n 0, 1) := by decide +kernel
theorem d_Y_clean_41 : decode c_Y_clean 41 = .ok (.getfield 29, 3) := by decide +kernel
theorem d_Y_clean_44 : decode c_Y_clean 44 = .ok (.iload_n 1, 1) := by decide +kernel
theorem d_Y_clean_45 : decode c_Y_clean 45 = .ok (.iconst 0, 1) := by decide +kernel
theorem d_Y_clean_46 : decode c_Y_clean 46 = .ok (.iastore, 1) := by decide +kernel
theorem d_Y_clean_47 : decode c_Y_clean 47 = .ok (.return_, 1) := by decide +kernel
theorem d_Y_together_0 : decode c_Y_together 0 = .ok (.iconst 0, 1) := by decide +kernel
theorem d_Y_together_1 : decode c_Y_together 1 = .ok (.istore_n 3, 1) := by decide +kernel
theorem d_Y_together_2 : decode c_Y_together 2 = .ok (.iconst 0, 1) := by decide +kernel
theorem d_Y_together_3 : decode c_Y_together 3 = .ok (.istore 4, 2) := by decide +kernel
theorem d_Y_together_5 : decode c_Y_together 5 = .ok (.iload 4, 2) := by decide +kernel
theorem d_Y_together_7 : decode c_Y_together 7 = .ok (.iconst 5, 1) := by decide +kernel
theorem d_Y_together_8 : decode c_Y_together 8 = .ok (.if_icmp .ge 52, 3) := by decide +kernel
theorem d_Y_together_11 : decode c_Y_together 11 = .ok (.aload_n 0, 1) := by decide +kernel
theorem d_Y_together_12 : decode c_Y_together 12 = .ok (.getfield 7, 3) := by decide +kernel
theorem d_Y_together_15 : decode c_Y_together 15 = .ok (.iload 4, 2) := by decide +kernel
theorem d_Y_together_17 : decode c_Y_together 17 = .ok (.baload, 1) := by decide +kernel
theorem d_Y_together_18 : decode c_Y_together 18 = .ok (.ifCond .eq 34, 3) := by decide +kernel
theorem d_Y_together_21 : decode c_Y_together 21 = .ok (.aload_n 0, 1) := by decide +kernel
theorem d_Y_together_22 : decode c_Y_together 22 = .ok (.getfield 13, 3) := by decide +kernel
theorem d_Y_together_25 : decode c_Y_together 25 = .ok (.iload 4, 2) := by decide +kernel
theorem d_Y_together_27 : decode c_Y_together 27 = .ok (.iaload, 1) := by decide +kernel
theorem d_Y_together_28 : decode c_Y_together 28 = .ok (.iload_n 1, 1) := by decide +kernel
theorem d_Y_together_29 : decode c_Y_together 29 = .ok (.if_icmp .ne 23, 3) := by decide +kernel
theorem d_Y_together_32 : decode c_Y_together 32 = .ok (.aload_n 0, 1) := by decide +kernel
theorem d_Y_together_33 : decode c_Y_together 33 = .ok (.getfield 17, 3) := by decide +kernel
theorem d_Y_together_36 : decode c_Y_together 36 = .ok (.iload 4, 2) := by decide +kernel
theorem d_Y_together_38 : decode c_Y_together 38 = .ok (.iaload, 1) := by decide +kernel
theorem d_Y_together_39 : decode c_Y_together 39 = .ok (.iload_n 2, 1) := by decide +kernel
theorem d_Y_together_40 : decode c_Y_together 40 = .ok (.if_icmp .ne 12, 3) := by decide +kernel
theorem d_Y_together_43 : decode c_Y_together 43 = .ok (.iload_n 3, 1) := by decide +kernel
theorem d_Y_together_44 : decode c_Y_together 44 = .ok (.iconst 1, 1) := by decide +kernel
theorem d_Y_together_45 : decode c_Y_together 45 = .ok (.iload 4, 2) := by decide +kernel
theorem d_Y_together_47 : decode c_Y_together 47 = .ok (.ishl, 1) := by decide +kernel
theorem d_Y_together_48 : decode c_Y_together 48 = .ok (.ior, 1) := by decide +kernel
theorem d_Y_together_49 : decode c_Y_together 49 = .ok (.goto 4, 3) := by decide +kernel
theorem d_Y_together_52 : decode c_Y_together 52 = .ok (.iload_n 3, 1) := by decide +kernel
theorem d_Y_together_53 : decode c_Y_together 53 = .ok (.istore_n 3, 1) := by decide +kernel
theorem d_Y_together_54 : decode c_Y_together 54 = .ok (.iinc 4 1, 3) := by decide +kernel
theorem d_Y_together_57 : decode c_Y_together 57 = .ok (.goto (-52), 3) := by decide +kernel
theorem d_Y_together_60 : decode c_Y_together 60 = .ok (.iload_n 3, 1) := by decide +kernel
theorem d_Y_together_61 : decode c_Y_together 61 = .ok (.ireturn, 1) := by decide +kernel
theorem d_Y_share_0 : decode c_Y_share 0 = .ok (.iconst 0, 1) := by decide +kernel
theorem d_Y_share_1 : decode c_Y_share 1 = .ok (.istore_n 2, 1) := by decide +kernel
theorem d_Y_share_2 : decode c_Y_share 2 = .ok (.iconst 0, 1) := by decide +kernel
theorem d_Y_share_3 : decode c_Y_share 3 = .ok (.istore_n 3, 1) := by decide +kernel
theorem d_Y_share_4 : decode c_Y_share 4 = .ok (.iload_n 3, 1) := by decide +kernel
theorem d_Y_share_5 : decode c_Y_share 5 = .ok (.iconst 5, 1) := by decide +kernel
theorem d_Y_share_6 : decode c_Y_share 6 = .ok (.if_icmp .ge 39, 3) := by decide +kernel
theorem d_Y_share_9 : decode c_Y_share 9 = .ok (.iload_n 1, 1) := by decide +kernel
theorem d_Y_share_10 : decode c_Y_share 10 = .ok (.iload_n 3, 1) := by decide +kernel
theorem d_Y_share_11 : decode c_Y_share 11 = .ok (.ishr, 1) := by decide +kernel
theorem d_Y_share_12 : decode c_Y_share 12 = .ok (.iconst 1, 1) := by decide +kernel
theorem d_Y_share_13 : decode c_Y_share 13 = .ok (.iand, 1) := by decide +kernel
theorem d_Y_share_14 : decode c_Y_share 14 = .ok (.iconst 1, 1) := by decide +kernel
theorem d_Y_share_15 : decode c_Y_share 15 = .ok (.if_icmp .ne 22, 3) := by decide +kernel
theorem d_Y_share_18 : decode c_Y_share 18 = .ok (.aload_n 0, 1) := by decide +kernel
theorem d_Y_share_19 : decode c_Y_share 19 = .ok (.getfield 20, 3) := by decide +kernel
theorem d_Y_share_22 : decode c_Y_share 22 = .ok (.iload_n 3, 1) := by decide +kernel
theorem d_Y_share_23 : decode c_Y_share 23 = .ok (.iaload, 1) := by decide +kernel
theorem d_Y_share_24 : decode c_Y_share 24 = .ok (.iload_n 2, 1) := by decide +kernel
theorem d_Y_share_25 : decode c_Y_share 25 = .ok (.if_icmp .le 12, 3) := by decide +kernel
theorem d_Y_share_28 : decode c_Y_share 28 = .ok (.aload_n 0, 1) := by decide +kernel
theorem d_Y_share_29 : decode c_Y_share 29 = .ok (.getfield 20, 3) := by decide +kernel
theorem d_Y_share_32 : decode c_Y_share 32 = .ok (.iload_n 3, 1) := by decide +kernel
theorem d_Y_share_33 : decode c_Y_share 33 = .ok (.iaload, 1) := by decide +kernel
theorem d_Y_share_34 : decode c_Y_share 34 = .ok (.goto 4, 3) := by decide +kernel
theorem d_Y_share_37 : decode c_Y_share 37 = .ok (.iload_n 2, 1) := by decide +kernel
theorem d_Y_share_38 : decode c_Y_share 38 = .ok (.istore_n 2, 1) := by decide +kernel
theorem d_Y_share_39 : decode c_Y_share 39 = .ok (.iinc 3 1, 3) := by decide +kernel
theorem d_Y_share_42 : decode c_Y_share 42 = .ok (.goto (-38), 3) := by decide +kernel
theorem d_Y_share_45 : decode c_Y_share 45 = .ok (.iconst 1, 1) := by decide +kernel
theorem d_Y_share_46 : decode c_Y_share 46 = .ok (.istore_n 3, 1) := by decide +kernel
theorem d_Y_share_47 : decode c_Y_share 47 = .ok (.iload_n 3, 1) := by decide +kernel
theorem d_Y_share_48 : decode c_Y_share 48 = .ok (.bipush 48, 2) := by decide +kernel
theorem d_Y_share_50 : decode c_Y_share 50 = .ok (.if_icmp .gt 118, 3) := by decide +kernel
theorem d_Y_share_53 : decode c_Y_share 53 = .ok (.iconst 0, 1) := by decide +kernel
theorem d_Y_share_54 : decode c_Y_share 54 = .ok (.istore 4, 2) := by decide +kernel
theorem d_Y_share_56 : decode c_Y_share 56 = .ok (.iconst 0, 1) := by decide +kernel
theorem d_Y_share_57 : decode c_Y_share 57 = .ok (.istore 5, 2) := by decide +kernel
theorem d_Y_share_59 : decode c_Y_share 59 = .ok (.iload 5, 2) := by decide +kernel
theorem d_Y_share_61 : decode c_Y_share 61 = .ok (.iconst 5, 1) := by decide +kernel
theorem d_Y_share_62 : decode c_Y_share 62 = .ok (.if_icmp .ge 46, 3) := by decide +kernel
theorem d_Y_share_65 : decode c_Y_share 65 = .ok (.iload 4, 2) := by decide +kernel
theorem d_Y_share_67 : decode c_Y_share 67 = .ok (.ifCond .ne 28, 3) := by decide +kernel
theorem d_Y_share_70 : decode c_Y_share 70 = .ok (.iload_n 1, 1) := by decide +kernel
theorem d_Y_share_71 : decode c_Y_share 71 = .ok (.iload 5, 2) := by decide +kernel
theorem d_Y_share_73 : decode c_Y_share 73 = .ok (.ishr, 1) := by decide +kernel
theorem d_Y_share_74 : decode c_Y_share 74 = .ok (.iconst 1, 1) := by decide +kernel
theorem d_Y_share_75 : decode c_Y_share 75 = .ok (.iand, 1) := by decide +kernel
theorem d_Y_share_76 : decode c_Y_share 76 = .ok (.iconst 1, 1) := by decide +kernel
theorem d_Y_share_77 : decode c_Y_share 77 = .ok (.if_icmp .ne 22, 3) := by decide +kernel
theorem d_Y_share_80 : decode c_Y_share 80 = .ok (.aload_n 0, 1) := by decide +kernel
theorem d_Y_share_81 : decode c_Y_share 81 = .ok (.getfield 32, 3) := by decide +kernel
theorem d_Y_share_84 : decode c_Y_share 84 = .ok (.bipush 49, 2) := by decide +kernel
theorem d_Y_share_86 : decode c_Y_share 86 = .ok (.iload 5, 2) := by decide +kernel
theorem d_Y_share_88 : decode c_Y_share 88 = .ok (.imul, 1) := by decide +kernel
theorem d_Y_share_89 : decode c_Y_share 89 = .ok (.iload_n 3, 1) := by decide +kernel
theorem d_Y_share_90 : decode c_Y_share 90 = .ok (.iadd, 1) := by decide +kernel
theorem d_Y_share_91 : decode c_Y_share 91 = .ok (.baload, 1) := by decide +kernel
theorem d_Y_share_92 : decode c_Y_share 92 = .ok (.ifCond .eq 7, 3) := by decide +kernel
theorem d_Y_share_95 : decode c_Y_share 95 = .ok (.iconst 1, 1) := by decide +kernel
theorem d_Y_share_96 : decode c_Y_share 96 = .ok (.goto 4, 3) := by decide +kernel
theorem d_Y_share_99 : decode c_Y_share 99 = .ok (.iconst 0, 1) := by decide +kernel
theorem d_Y_share_100 : decode c_Y_share 100 = .ok (.istore 4, 2) := by decide +kernel
theorem d_Y_share_102 : decode c_Y_share 102 = .ok (.iinc 5 1, 3) := by decide +kernel
theorem d_Y_share_105 : decode c_Y_share 105 = .ok (.goto (-46), 3) := by decide +kernel
theorem d_Y_share_108 : decode c_Y_share 108 = .ok (.iconst 0, 1) := by decide +kernel
theorem d_Y_share_109 : decode c_Y_share 109 = .ok (.istore 5, 2) := by decide +kernel
theorem d_Y_share_111 : decode c_Y_share 111 = .ok (.iload 5, 2) := by decide +kernel
theorem d_Y_share_113 : decode c_Y_share 113 = .ok (.iconst 5, 1) := by decide +kernel
theorem d_Y_share_114 : decode c_Y_share 114 = .ok (.if_icmp .ge 48, 3) := by decide +kernel
theorem d_Y_share_117 : decode c_Y_share 117 = .ok (.aload_n 0, 1) := by decide +kernel
theorem d_Y_share_118 : decode c_Y_share 118 = .ok (.getfield 32, 3) := by decide +kernel
theorem d_Y_share_121 : decode c_Y_share 121 = .ok (.bipush 49, 2) := by decide +kernel
theorem d_Y_share_123 : decode c_Y_share 123 = .ok (.iload 5, 2) := by decide +kernel
theorem d_Y_share_125 : decode c_Y_share 125 = .ok (.imul, 1) := by decide +kernel
theorem d_Y_share_126 : decode c_Y_share 126 = .ok (.iload_n 3, 1) := by decide +kernel
theorem d_Y_share_127 : decode c_Y_share 127 = .ok (.iadd, 1) := by decide +kernel
theorem d_Y_share_128 : decode c_Y_share 128 = .ok (.iload_n 1, 1) := by decide +kernel
theorem d_Y_share_129 : decode c_Y_share 129 = .ok (.iload 5, 2) := by decide +kernel
theorem d_Y_share_131 : decode c_Y_share 131 = .ok (.ishr, 1) := by decide +kernel
theorem d_Y_share_132 : decode c_Y_share 132 = .ok (.iconst 1, 1) := by decide +kernel
theorem d_Y_share_133 : decode c_Y_share 133 = .ok (.iand, 1) := by decide +kernel
theorem d_Y_share_134 : decode c_Y_share 134 = .ok (.iconst 1, 1) := by decide +kernel
theorem d_Y_share_135 : decode c_Y_share 135 = .ok (.if_icmp .ne 8, 3) := by decide +kernel
theorem d_Y_share_138 : decode c_Y_share 138 = .ok (.iload 4, 2) := by decide +kernel
theorem d_Y_share_140 : decode c_Y_share 140 = .ok (.goto 15, 3) := by decide +kernel
theorem d_Y_share_143 : decode c_Y_share 143 = .ok (.aload_n 0, 1) := by decide +kernel
theorem d_Y_share_144 : decode c_Y_share 144 = .ok (.getfield 32, 3) := by decide +kernel
theorem d_Y_share_147 : decode c_Y_share 147 = .ok (.bipush 49, 2) := by decide +kernel
theorem d_Y_share_149 : decode c_Y_share 149 = .ok (.iload 5, 2) := by decide +kernel
theorem d_Y_share_151 : decode c_Y_share 151 = .ok (.imul, 1) := by decide +kernel
theorem d_Y_share_152 : decode c_Y_share 152 = .ok (.iload_n 3, 1) := by decide +kernel
theorem d_Y_share_153 : decode c_Y_share 153 = .ok (.iadd, 1) := by decide +kernel
theorem d_Y_share_154 : decode c_Y_share 154 = .ok (.baload, 1) := by decide +kernel
theorem d_Y_share_155 : decode c_Y_share 155 = .ok (.bastore, 1) := by decide +kernel
theorem d_Y_share_156 : decode c_Y_share 156 = .ok (.iinc 5 1, 3) := by decide +kernel
theorem d_Y_share_159 : decode c_Y_share 159 = .ok (.goto (-48), 3) := by decide +kernel
theorem d_Y_share_162 : decode c_Y_share 162 = .ok (.iinc 3 1, 3) := by decide +kernel
theorem d_Y_share_165 : decode c_Y_share 165 = .ok (.goto (-118), 3) := by decide +kernel
theorem d_Y_share_168 : decode c_Y_share 168 = .ok (.iconst 0, 1) := by decide +kernel
theorem d_Y_share_169 : decode c_Y_share 169 = .ok (.istore_n 3, 1) := by decide +kernel
theorem d_Y_share_170 : decode c_Y_share 170 = .ok (.iload_n 3, 1) := by decide +kernel
theorem d_Y_share_171 : decode c_Y_share 171 = .ok (.iconst 5, 1) := by decide +kernel
theorem d_Y_share_172 : decode c_Y_share 172 = .ok (.if_icmp .ge 36, 3) := by decide +kernel
theorem d_Y_share_175 : decode c_Y_share 175 = .ok (.iload_n 1, 1) := by decide +kernel
theorem d_Y_share_176 : decode c_Y_share 176 = .ok (.iload_n 3, 1) := by decide +kernel
theorem d_Y_share_177 : decode c_Y_share 177 = .ok (.ishr, 1) := by decide +kernel
theorem d_Y_share_178 : decode c_Y_share 178 = .ok (.iconst 1, 1) := by decide +kernel
theorem d_Y_share_179 : decode c_Y_share 179 = .ok (.iand, 1) := by decide +kernel
theorem d_Y_share_180 : decode c_Y_share 180 = .ok (.iconst 1, 1) := by decide +kernel
theorem d_Y_share_181 : decode c_Y_share 181 = .ok (.if_icmp .ne 21, 3) := by decide +kernel
theorem d_Y_share_184 : decode c_Y_share 184 = .ok (.aload_n 0, 1) := by decide +kernel
theorem d_Y_share_185 : decode c_Y_share 185 = .ok (.getfield 20, 3) := by decide +kernel
theorem d_Y_share_188 : decode c_Y_share 188 = .ok (.iload_n 3, 1) := by decide +kernel
theorem d_Y_share_189 : decode c_Y_share 189 = .ok (.iload_n 2, 1) := by decide +kernel
theorem d_Y_share_190 : decode c_Y_share 190 = .ok (.iastore, 1) := by decide +kernel
theorem d_Y_share_191 : decode c_Y_share 191 = .ok (.aload_n 0, 1) := by decide +kernel
theorem d_Y_share_192 : decode c_Y_share 192 = .ok (.iload_n 3, 1) := by decide +kernel
theorem d_Y_share_193 : decode c_Y_share 193 = .ok (.invokevirtual 122, 3) := by decide +kernel
theorem d_Y_share_196 : decode c_Y_share 196 = .ok (.aload_n 0, 1) := by decide +kernel
theorem d_Y_share_197 : decode c_Y_share 197 = .ok (.iload_n 3, 1) := by decide +kernel
theorem d_Y_share_198 : decode c_Y_share 198 = .ok (.iload_n 1, 1) := by decide +kernel
theorem d_Y_share_199 : decode c_Y_share 199 = .ok (.invokevirtual 138, 3) := by decide +kernel
theorem d_Y_share_202 : decode c_Y_share 202 = .ok (.iinc 3 1, 3) := by decide +kernel
theorem d_Y_share_205 : decode c_Y_share 205 = .ok (.goto (-35), 3) := by decide +kernel
theorem d_Y_share_208 : decode c_Y_share 208 = .ok (.return_, 1) := by decide +kernel
theorem d_Y_finish_0 : decode c_Y_finish 0 = .ok (.iconst 0, 1) := by decide +kernel
theorem d_Y_finish_1 : decode c_Y_finish 1 = .ok (.istore_n 3, 1) := by decide +kernel
theorem d_Y_finish_2 : decode c_Y_finish 2 = .ok (.aload_n 0, 1) := by decide +kernel
theorem d_Y_finish_3 : decode c_Y_finish 3 = .ok (.getfield 23, 3) := by decide +kernel
theorem d_Y_finish_6 : decode c_Y_finish 6 = .ok (.iload_n 1, 1) := by decide +kernel
theorem d_Y_finish_7 : decode c_Y_finish 7 = .ok (.iaload, 1) := by decide +kernel
theorem d_Y_finish_8 : decode c_Y_finish 8 = .ok (.iconst 1, 1) := by decide +kernel
theorem d_Y_finish_9 : decode c_Y_finish 9 = .ok (.iadd, 1) := by decide +kernel
theorem d_Y_finish_10 : decode c_Y_finish 10 = .ok (.istore 4, 2) := by decide +kernel
theorem d_Y_finish_12 : decode c_Y_finish 12 = .ok (.iload 4, 2) := by decide +kernel
theorem d_Y_finish_14 : decode c_Y_finish 14 = .ok (.bipush 48, 2) := by decide +kernel
theorem d_Y_finish_16 : decode c_Y_finish 16 = .ok (.if_icmp .gt 100, 3) := by decide +kernel
theorem d_Y_finish_19 : decode c_Y_finish 19 = .ok (.aload_n 0, 1) := by decide +kernel
theorem d_Y_finish_20 : decode c_Y_finish 20 = .ok (.aload_n 0, 1) := by decide +kernel
theorem d_Y_finish_21 : decode c_Y_finish 21 = .ok (.getfield 17, 3) := by decide +kernel
theorem d_Y_finish_24 : decode c_Y_finish 24 = .ok (.iload_n 1, 1) := by decide +kernel
theorem d_Y_finish_25 : decode c_Y_finish 25 = .ok (.iaload, 1) := by decide +kernel
theorem d_Y_finish_26 : decode c_Y_finish 26 = .ok (.iload 4, 2) := by decide +kernel
theorem d_Y_finish_28 : decode c_Y_finish 28 = .ok (.invokevirtual 83, 3) := by decide +kernel
theorem d_Y_finish_31 : decode c_Y_finish 31 = .ok (.istore 5, 2) := by decide +kernel
theorem d_Y_finish_33 : decode c_Y_finish 33 = .ok (.iload 5, 2) := by decide +kernel
theorem d_Y_finish_35 : decode c_Y_finish 35 = .ok (.ifCond .le 22, 3) := by decide +kernel
theorem d_Y_finish_38 : decode c_Y_finish 38 = .ok (.aload_n 0, 1) := by decide +kernel
theorem d_Y_finish_39 : decode c_Y_finish 39 = .ok (.getfield 32, 3) := by decide +kernel
theorem d_Y_finish_42 : decode c_Y_finish 42 = .ok (.bipush 49, 2) := by decide +kernel
theorem d_Y_finish_44 : decode c_Y_finish 44 = .ok (.iload_n 1, 1) := by decide +kernel
theorem d_Y_finish_45 : decode c_Y_finish 45 = .ok (.imul, 1) := by decide +kernel
theorem d_Y_finish_46 : decode c_Y_finish 46 = .ok (.iload 5, 2) := by decide +kernel
theorem d_Y_finish_48 : decode c_Y_finish 48 = .ok (.iadd, 1) := by decide +kernel
theorem d_Y_finish_49 : decode c_Y_finish 49 = .ok (.baload, 1) := by decide +kernel
theorem d_Y_finish_50 : decode c_Y_finish 50 = .ok (.ifCond .eq 7, 3) := by decide +kernel
theorem d_Y_finish_53 : decode c_Y_finish 53 = .ok (.iconst 1, 1) := by decide +kernel
theorem d_Y_finish_54 : decode c_Y_finish 54 = .ok (.goto 4, 3) := by decide +kernel
theorem d_Y_finish_57 : decode c_Y_finish 57 = .ok (.iconst 0, 1) := by decide +kernel
theorem d_Y_finish_58 : decode c_Y_finish 58 = .ok (.istore 6, 2) := by decide +kernel
theorem d_Y_finish_60 : decode c_Y_finish 60 = .ok (.iload_n 3, 1) := by decide +kernel
theorem d_Y_finish_61 : decode c_Y_finish 61 = .ok (.ifCond .ne 8, 3) := by decide +kernel
theorem d_Y_finish_64 : decode c_Y_finish 64 = .ok (.iload 6, 2) := by decide +kernel
theorem d_Y_finish_66 : decode c_Y_finish 66 = .ok (.ifCond .ne 7, 3) := by decide +kernel
theorem d_Y_finish_69 : decode c_Y_finish 69 = .ok (.iconst 1, 1) := by decide +kernel
theorem d_Y_finish_70 : decode c_Y_finish 70 = .ok (.goto 4, 3) := by decide +kernel
theorem d_Y_finish_73 : decode c_Y_finish 73 = .ok (.iconst 0, 1) := by decide +kernel
theorem d_Y_finish_74 : decode c_Y_finish 74 = .ok (.istore_n 3, 1) := by decide +kernel
theorem d_Y_finish_75 : decode c_Y_finish 75 = .ok (.iload 6, 2) := by decide +kernel
theorem d_Y_finish_77 : decode c_Y_finish 77 = .ok (.ifCond .eq 33, 3) := by decide +kernel
theorem d_Y_finish_80 : decode c_Y_finish 80 = .ok (.iload_n 3, 1) := by decide +kernel
theorem d_Y_finish_81 : decode c_Y_finish 81 = .ok (.ifCond .eq 18, 3) := by decide +kernel
theorem d_Y_finish_84 : decode c_Y_finish 84 = .ok (.iload_n 2, 1) := by decide +kernel
theorem d_Y_finish_85 : decode c_Y_finish 85 = .ok (.aload_n 0, 1) := by decide +kernel
theorem d_Y_finish_86 : decode c_Y_finish 86 = .ok (.getfield 41, 3) := by decide +kernel
theorem d_Y_finish_89 : decode c_Y_finish 89 = .ok (.iload 5, 2) := by decide +kernel
theorem d_Y_finish_91 : decode c_Y_finish 91 = .ok (.iaload, 1) := by decide +kernel
theorem d_Y_finish_92 : decode c_Y_finish 92 = .ok (.ishr, 1) := by decide +kernel
theorem d_Y_finish_93 : decode c_Y_finish 93 = .ok (.iconst 1, 1) := by decide +kernel
theorem d_Y_finish_94 : decode c_Y_finish 94 = .ok (.iand, 1) := by decide +kernel
theorem d_Y_finish_95 : decode c_Y_finish 95 = .ok (.iconst 1, 1) := by decide +kernel
theorem d_Y_finish_96 : decode c_Y_finish 96 = .ok (.if_icmp .ne 14, 3) := by decide +kernel
theorem d_Y_finish_99 : decode c_Y_finish 99 = .ok (.aload_n 0, 1) := by decide +kernel
theorem d_Y_finish_100 : decode c_Y_finish 100 = .ok (.iload_n 1, 1) := by decide +kernel
theorem d_Y_finish_101 : decode c_Y_finish 101 = .ok (.iconst 2, 1) := by decide +kernel
theorem d_Y_finish_102 : decode c_Y_finish 102 = .ok (.iload 5, 2) := by decide +kernel
theorem d_Y_finish_104 : decode c_Y_finish 104 = .ok (.imul, 1) := by decide +kernel
theorem d_Y_finish_105 : decode c_Y_finish 105 = .ok (.iconst 1, 1) := by decide +kernel
theorem d_Y_finish_106 : decode c_Y_finish 106 = .ok (.iadd, 1) := by decide +kernel
theorem d_Y_finish_107 : decode c_Y_finish 107 = .ok (.invokevirtual 101, 3) := by decide +kernel
theorem d_Y_finish_110 : decode c_Y_finish 110 = .ok (.iinc 4 1, 3) := by decide +kernel
theorem d_Y_finish_113 : decode c_Y_finish 113 = .ok (.goto (-101), 3) := by decide +kernel
theorem d_Y_finish_116 : decode c_Y_finish 116 = .ok (.return_, 1) := by decide +kernel
theorem d_Y_form_0 : decode c_Y_form 0 = .ok (.iconst 0, 1) := by decide +kernel
theorem d_Y_form_1 : decode c_Y_form 1 = .ok (.istore_n 2, 1) := by decide +kernel
theorem d_Y_form_2 : decode c_Y_form 2 = .ok (.iconst (-1), 1) := by decide +kernel
theorem d_Y_form_3 : decode c_Y_form 3 = .ok (.istore_n 3, 1) := by decide +kernel
theorem d_Y_form_4 : decode c_Y_form 4 = .ok (.iconst 4, 1) := by decide +kernel
theorem d_Y_form_5 : decode c_Y_form 5 = .ok (.istore 4, 2) := by decide +kernel
theorem d_Y_form_7 : decode c_Y_form 7 = .ok (.iload 4, 2) := by decide +kernel
theorem d_Y_form_9 : decode c_Y_form 9 = .ok (.ifCond .lt 40, 3) := by decide +kernel
theorem d_Y_form_12 : decode c_Y_form 12 = .ok (.aload_n 0, 1) := by decide +kernel
theorem d_Y_form_13 : decode c_Y_form 13 = .ok (.getfield 7, 3) := by decide +kernel
theorem d_Y_form_16 : decode c_Y_form 16 = .ok (.iload 4, 2) := by decide +kernel
theorem d_Y_form_18 : decode c_Y_form 18 = .ok (.baload, 1) := by decide +kernel
theorem d_Y_form_19 : decode c_Y_form 19 = .ok (.ifCond .eq 24, 3) := by decide +kernel
theorem d_Y_form_22 : decode c_Y_form 22 = .ok (.aload_n 0, 1) := by decide +kernel
theorem d_Y_form_23 : decode c_Y_form 23 = .ok (.getfield 13, 3) := by decide +kernel
theorem d_Y_form_26 : decode c_Y_form 26 = .ok (.iload 4, 2) := by decide +kernel
theorem d_Y_form_28 : decode c_Y_form 28 = .ok (.iaload, 1) := by decide +kernel
theorem d_Y_form_29 : decode c_Y_form 29 = .ok (.iload_n 1, 1) := by decide +kernel
theorem d_Y_form_30 : decode c_Y_form 30 = .ok (.if_icmp .ne 13, 3) := by decide +kernel
theorem d_Y_form_33 : decode c_Y_form 33 = .ok (.iload_n 2, 1) := by decide +kernel
theorem d_Y_form_34 : decode c_Y_form 34 = .ok (.iconst 1, 1) := by decide +kernel
theorem d_Y_form_35 : decode c_Y_form 35 = .ok (.iload 4, 2) := by decide +kernel
theorem d_Y_form_37 : decode c_Y_form 37 = .ok (.ishl, 1) := by decide +kernel
theorem d_Y_form_38 : decode c_Y_form 38 = .ok (.ior, 1) := by decide +kernel
theorem d_Y_form_39 : decode c_Y_form 39 = .ok (.istore_n 2, 1) := by decide +kernel
theorem d_Y_form_40 : decode c_Y_form 40 = .ok (.iload 4, 2) := by decide +kernel
theorem d_Y_form_42 : decode c_Y_form 42 = .ok (.istore_n 3, 1) := by decide +kernel
theorem d_Y_form_43 : decode c_Y_form 43 = .ok (.iinc 4 (-1), 3) := by decide +kernel
theorem d_Y_form_46 : decode c_Y_form 46 = .ok (.goto (-39), 3) := by decide +kernel
theorem d_Y_form_49 : decode c_Y_form 49 = .ok (.iconst 0, 1) := by decide +kernel
theorem d_Y_form_50 : decode c_Y_form 50 = .ok (.istore 4, 2) := by decide +kernel
theorem d_Y_form_52 : decode c_Y_form 52 = .ok (.iconst 0, 1) := by decide +kernel
theorem d_Y_form_53 : decode c_Y_form 53 = .ok (.istore 5, 2) := by decide +kernel
theorem d_Y_form_55 : decode c_Y_form 55 = .ok (.iload 5, 2) := by decide +kernel
theorem d_Y_form_57 : decode c_Y_form 57 = .ok (.iconst 5, 1) := by decide +kernel
theorem d_Y_form_58 : decode c_Y_form 58 = .ok (.if_icmp .ge 56, 3) := by decide +kernel
theorem d_Y_form_61 : decode c_Y_form 61 = .ok (.iload_n 2, 1) := by decide +kernel
theorem d_Y_form_62 : decode c_Y_form 62 = .ok (.iload 5, 2) := by decide +kernel
theorem d_Y_form_64 : decode c_Y_form 64 = .ok (.ishr, 1) := by decide +kernel
theorem d_Y_form_65 : decode c_Y_form 65 = .ok (.iconst 1, 1) := by decide +kernel
theorem d_Y_form_66 : decode c_Y_form 66 = .ok (.iand, 1) := by decide +kernel
theorem d_Y_form_67 : decode c_Y_form 67 = .ok (.iconst 1, 1) := by decide +kernel
theorem d_Y_form_68 : decode c_Y_form 68 = .ok (.if_icmp .ne 40, 3) := by decide +kernel
theorem d_Y_form_71 : decode c_Y_form 71 = .ok (.iload 4, 2) := by decide +kernel
theorem d_Y_form_73 : decode c_Y_form 73 = .ok (.iload 5, 2) := by decide +kernel
theorem d_Y_form_75 : decode c_Y_form 75 = .ok (.ishr, 1) := by decide +kernel
theorem d_Y_form_76 : decode c_Y_form 76 = .ok (.iconst 1, 1) := by decide +kernel
theorem d_Y_form_77 : decode c_Y_form 77 = .ok (.iand, 1) := by decide +kernel
theorem d_Y_form_78 : decode c_Y_form 78 = .ok (.ifCond .ne 30, 3) := by decide +kernel
theorem d_Y_form_81 : decode c_Y_form 81 = .ok (.aload_n 0, 1) := by decide +kernel
theorem d_Y_form_82 : decode c_Y_form 82 = .ok (.iload_n 1, 1) := by decide +kernel
theorem d_Y_form_83 : decode c_Y_form 83 = .ok (.aload_n 0, 1) := by decide +kernel
theorem d_Y_form_84 : decode c_Y_form 84 = .ok (.getfield 17, 3) := by decide +kernel
theorem d_Y_form_87 : decode c_Y_form 87 = .ok (.iload 5, 2) := by decide +kernel
theorem d_Y_form_89 : decode c_Y_form 89 = .ok (.iaload, 1) := by decide +kernel
theorem d_Y_form_90 : decode c_Y_form 90 = .ok (.invokevirtual 141, 3) := by decide +kernel
theorem d_Y_form_93 : decode c_Y_form 93 = .ok (.istore 6, 2) := by decide +kernel
theorem d_Y_form_95 : decode c_Y_form 95 = .ok (.aload_n 0, 1) := by decide +kernel
theorem d_Y_form_96 : decode c_Y_form 96 = .ok (.iload 6, 2) := by decide +kernel
theorem d_Y_form_98 : decode c_Y_form 98 = .ok (.invokevirtual 144, 3) := by decide +kernel
theorem d_Y_form_101 : decode c_Y_form 101 = .ok (.iload 4, 2) := by decide +kernel
theorem d_Y_form_103 : decode c_Y_form 103 = .ok (.iload 6, 2) := by decide +kernel
theorem d_Y_form_105 : decode c_Y_form 105 = .ok (.ior, 1) := by decide +kernel
theorem d_Y_form_106 : decode c_Y_form 106 = .ok (.istore 4, 2) := by decide +kernel
theorem d_Y_form_108 : decode c_Y_form 108 = .ok (.iinc 5 1, 3) := by decide +kernel
theorem d_Y_form_111 : decode c_Y_form 111 = .ok (.goto (-56), 3) := by decide +kernel
theorem d_Y_form_114 : decode c_Y_form 114 = .ok (.aload_n 0, 1) := by decide +kernel
theorem d_Y_form_115 : decode c_Y_form 115 = .ok (.iload_n 2, 1) := by decide +kernel
theorem d_Y_form_116 : decode c_Y_form 116 = .ok (.iload_n 3, 1) := by decide +kernel
theorem d_Y_form_117 : decode c_Y_form 117 = .ok (.invokevirtual 147, 3) := by decide +kernel
theorem d_Y_form_120 : decode c_Y_form 120 = .ok (.iconst 0, 1) := by decide +kernel
theorem d_Y_form_121 : decode c_Y_form 121 = .ok (.istore 5, 2) := by decide +kernel
theorem d_Y_form_123 : decode c_Y_form 123 = .ok (.iload 5, 2) := by decide +kernel
theorem d_Y_form_125 : decode c_Y_form 125 = .ok (.iconst 5, 1) := by decide +kernel
theorem d_Y_form_126 : decode c_Y_form 126 = .ok (.if_icmp .ge 25, 3) := by decide +kernel
theorem d_Y_form_129 : decode c_Y_form 129 = .ok (.iload_n 2, 1) := by decide +kernel
theorem d_Y_form_130 : decode c_Y_form 130 = .ok (.iload 5, 2) := by decide +kernel
theorem d_Y_form_132 : decode c_Y_form 132 = .ok (.ishr, 1) := by decide +kernel
theorem d_Y_form_133 : decode c_Y_form 133 = .ok (.iconst 1, 1) := by decide +kernel
theorem d_Y_form_134 : decode c_Y_form 134 = .ok (.iand, 1) := by decide +kernel
theorem d_Y_form_135 : decode c_Y_form 135 = .ok (.iconst 1, 1) := by decide +kernel
theorem d_Y_form_136 : decode c_Y_form 136 = .ok (.if_icmp .ne 9, 3) := by decide +kernel
theorem d_Y_form_139 : decode c_Y_form 139 = .ok (.aload_n 0, 1) := by decide +kernel
theorem d_Y_form_140 : decode c_Y_form 140 = .ok (.iload 5, 2) := by decide +kernel
theorem d_Y_form_142 : decode c_Y_form 142 = .ok (.invokevirtual 150, 3) := by decide +kernel
theorem d_Y_form_145 : decode c_Y_form 145 = .ok (.iinc 5 1, 3) := by decide +kernel
theorem d_Y_form_148 : decode c_Y_form 148 = .ok (.goto (-25), 3) := by decide +kernel
theorem d_Y_form_151 : decode c_Y_form 151 = .ok (.return_, 1) := by decide +kernel
theorem d_Y_tick_0 : decode c_Y_tick 0 = .ok (.aload_n 0, 1) := by decide +kernel
theorem d_Y_tick_1 : decode c_Y_tick 1 = .ok (.iload_n 1, 1) := by decide +kernel
theorem d_Y_tick_2 : decode c_Y_tick 2 = .ok (.invokevirtual 91, 3) := by decide +kernel
theorem d_Y_tick_5 : decode c_Y_tick 5 = .ok (.istore_n 2, 1) := by decide +kernel
theorem d_Y_tick_6 : decode c_Y_tick 6 = .ok (.iload_n 2, 1) := by decide +kernel
theorem d_Y_tick_7 : decode c_Y_tick 7 = .ok (.ifCond .eq 5, 3) := by decide +kernel
theorem d_Y_tick_10 : decode c_Y_tick 10 = .ok (.iload_n 2, 1) := by decide +kernel
theorem d_Y_tick_11 : decode c_Y_tick 11 = .ok (.ireturn, 1) := by decide +kernel
theorem d_Y_tick_12 : decode c_Y_tick 12 = .ok (.aload_n 0, 1) := by decide +kernel
theorem d_Y_tick_13 : decode c_Y_tick 13 = .ok (.getfield 29, 3) := by decide +kernel
theorem d_Y_tick_16 : decode c_Y_tick 16 = .ok (.iload_n 1, 1) := by decide +kernel
theorem d_Y_tick_17 : decode c_Y_tick 17 = .ok (.dup2, 1) := by decide +kernel
theorem d_Y_tick_18 : decode c_Y_tick 18 = .ok (.iaload, 1) := by decide +kernel
theorem d_Y_tick_19 : decode c_Y_tick 19 = .ok (.iconst 1, 1) := by decide +kernel
theorem d_Y_tick_20 : decode c_Y_tick 20 = .ok (.iadd, 1) := by decide +kernel
theorem d_Y_tick_21 : decode c_Y_tick 21 = .ok (.iastore, 1) := by decide +kernel
theorem d_Y_tick_22 : decode c_Y_tick 22 = .ok (.aload_n 0, 1) := by decide +kernel
theorem d_Y_tick_23 : decode c_Y_tick 23 = .ok (.getfield 29, 3) := by decide +kernel
theorem d_Y_tick_26 : decode c_Y_tick 26 = .ok (.iload_n 1, 1) := by decide +kernel
theorem d_Y_tick_27 : decode c_Y_tick 27 = .ok (.iaload, 1) := by decide +kernel
theorem d_Y_tick_28 : decode c_Y_tick 28 = .ok (.iconst 4, 1) := by decide +kernel
theorem d_Y_tick_29 : decode c_Y_tick 29 = .ok (.if_icmp .ge 5, 3) := by decide +kernel
theorem d_Y_tick_32 : decode c_Y_tick 32 = .ok (.iconst 0, 1) := by decide +kernel
theorem d_Y_tick_33 : decode c_Y_tick 33 = .ok (.ireturn, 1) := by decide +kernel
theorem d_Y_tick_34 : decode c_Y_tick 34 = .ok (.aload_n 0, 1) := by decide +kernel
theorem d_Y_tick_35 : decode c_Y_tick 35 = .ok (.aload_n 0, 1) := by decide +kernel
theorem d_Y_tick_36 : decode c_Y_tick 36 = .ok (.getfield 13, 3) := by decide +kernel
theorem d_Y_tick_39 : decode c_Y_tick 39 = .ok (.iload_n 1, 1) := by decide +kernel
theorem d_Y_tick_40 : decode c_Y_tick 40 = .ok (.iaload, 1) := by decide +kernel
theorem d_Y_tick_41 : decode c_Y_tick 41 = .ok (.invokevirtual 129, 3) := by decide +kernel
theorem d_Y_tick_44 : decode c_Y_tick 44 = .ok (.iconst 1, 1) := by decide +kernel
theorem d_Y_tick_45 : decode c_Y_tick 45 = .ok (.ireturn, 1) := by decide +kernel
theorem d_Y_crash_0 : decode c_Y_crash 0 = .ok (.aload_n 0, 1) := by decide +kernel
theorem d_Y_crash_1 : decode c_Y_crash 1 = .ok (.iload_n 1, 1) := by decide +kernel
theorem d_Y_crash_2 : decode c_Y_crash 2 = .ok (.invokevirtual 91, 3) := by decide +kernel
theorem d_Y_crash_5 : decode c_Y_crash 5 = .ok (.ifCond .eq 5, 3) := by decide +kernel
theorem d_Y_crash_8 : decode c_Y_crash 8 = .ok (.iconst 0, 1) := by decide +kernel
theorem d_Y_crash_9 : decode c_Y_crash 9 = .ok (.ireturn, 1) := by decide +kernel
theorem d_Y_crash_10 : decode c_Y_crash 10 = .ok (.aload_n 0, 1) := by decide +kernel
theorem d_Y_crash_11 : decode c_Y_crash 11 = .ok (.getfield 17, 3) := by decide +kernel
theorem d_Y_crash_14 : decode c_Y_crash 14 = .ok (.iload_n 1, 1) := by decide +kernel
theorem d_Y_crash_15 : decode c_Y_crash 15 = .ok (.iaload, 1) := by decide +kernel
theorem d_Y_crash_16 : decode c_Y_crash 16 = .ok (.istore_n 2, 1) := by decide +kernel
theorem d_Y_crash_17 : decode c_Y_crash 17 = .ok (.aload_n 0, 1) := by decide +kernel
theorem d_Y_crash_18 : decode c_Y_crash 18 = .ok (.getfield 56, 3) := by decide +kernel
theorem d_Y_crash_21 : decode c_Y_crash 21 = .ok (.iload_n 2, 1) := by decide +kernel
theorem d_Y_crash_22 : decode c_Y_crash 22 = .ok (.aload_n 0, 1) := by decide +kernel
theorem d_Y_crash_23 : decode c_Y_crash 23 = .ok (.getfield 56, 3) := by decide +kernel
theorem d_Y_crash_26 : decode c_Y_crash 26 = .ok (.iload_n 2, 1) := by decide +kernel
theorem d_Y_crash_27 : decode c_Y_crash 27 = .ok (.iaload, 1) := by decide +kernel
theorem d_Y_crash_28 : decode c_Y_crash 28 = .ok (.iload_n 1, 1) := by decide +kernel
theorem d_Y_crash_29 : decode c_Y_crash 29 = .ok (.if_icmp .ne 7, 3) := by decide +kernel
theorem d_Y_crash_32 : decode c_Y_crash 32 = .ok (.iconst (-1), 1) := by decide +kernel
theorem d_Y_crash_33 : decode c_Y_crash 33 = .ok (.goto 9, 3) := by decide +kernel
theorem d_Y_crash_36 : decode c_Y_crash 36 = .ok (.aload_n 0, 1) := by decide +kernel
theorem d_Y_crash_37 : decode c_Y_crash 37 = .ok (.getfield 56, 3) := by decide +kernel
theorem d_Y_crash_40 : decode c_Y_crash 40 = .ok (.iload_n 2, 1) := by decide +kernel
theorem d_Y_crash_41 : decode c_Y_crash 41 = .ok (.iaload, 1) := by decide +kernel
theorem d_Y_crash_42 : decode c_Y_crash 42 = .ok (.iastore, 1) := by decide +kernel
theorem d_Y_crash_43 : decode c_Y_crash 43 = .ok (.aload_n 0, 1) := by decide +kernel
theorem d_Y_crash_44 : decode c_Y_crash 44 = .ok (.getfield 7, 3) := by decide +kernel
theorem d_Y_crash_47 : decode c_Y_crash 47 = .ok (.iload_n 1, 1) := by decide +kernel
theorem d_Y_crash_48 : decode c_Y_crash 48 = .ok (.iconst 0, 1) := by decide +kernel
theorem d_Y_crash_49 : decode c_Y_crash 49 = .ok (.bastore, 1) := by decide +kernel
theorem d_Y_crash_50 : decode c_Y_crash 50 = .ok (.aload_n 0, 1) := by decide +kernel
theorem d_Y_crash_51 : decode c_Y_crash 51 = .ok (.getfield 26, 3) := by decide +kernel
theorem d_Y_crash_54 : decode c_Y_crash 54 = .ok (.iload_n 1, 1) := by decide +kernel
theorem d_Y_crash_55 : decode c_Y_crash 55 = .ok (.iconst 0, 1) := by decide +kernel
theorem d_Y_crash_56 : decode c_Y_crash 56 = .ok (.iastore, 1) := by decide +kernel
theorem d_Y_crash_57 : decode c_Y_crash 57 = .ok (.iconst 1, 1) := by decide +kernel
theorem d_Y_crash_58 : decode c_Y_crash 58 = .ok (.istore_n 3, 1) := by decide +kernel
theorem d_Y_crash_59 : decode c_Y_crash 59 = .ok (.iload_n 3, 1) := by decide +kernel
theorem d_Y_crash_60 : decode c_Y_crash 60 = .ok (.aload_n 0, 1) := by decide +kernel
theorem d_Y_crash_61 : decode c_Y_crash 61 = .ok (.getfield 80, 3) := by decide +kernel
theorem d_Y_crash_64 : decode c_Y_crash 64 = .ok (.if_icmp .gt 48, 3) := by decide +kernel
theorem d_Y_crash_67 : decode c_Y_crash 67 = .ok (.aload_n 0, 1) := by decide +kernel
theorem d_Y_crash_68 : decode c_Y_crash 68 = .ok (.getfield 47, 3) := by decide +kernel
theorem d_Y_crash_71 : decode c_Y_crash 71 = .ok (.iload_n 3, 1) := by decide +kernel
theorem d_Y_crash_72 : decode c_Y_crash 72 = .ok (.aload_n 0, 1) := by decide +kernel
theorem d_Y_crash_73 : decode c_Y_crash 73 = .ok (.getfield 47, 3) := by decide +kernel
theorem d_Y_crash_76 : decode c_Y_crash 76 = .ok (.iload_n 3, 1) := by decide +kernel
theorem d_Y_crash_77 : decode c_Y_crash 77 = .ok (.baload, 1) := by decide +kernel
theorem d_Y_crash_78 : decode c_Y_crash 78 = .ok (.ifCond .ne 22, 3) := by decide +kernel
theorem d_Y_crash_81 : decode c_Y_crash 81 = .ok (.aload_n 0, 1) := by decide +kernel
theorem d_Y_crash_82 : decode c_Y_crash 82 = .ok (.getfield 41, 3) := by decide +kernel
theorem d_Y_crash_85 : decode c_Y_crash 85 = .ok (.iload_n 3, 1) := by decide +kernel
theorem d_Y_crash_86 : decode c_Y_crash 86 = .ok (.iaload, 1) := by decide +kernel
theorem d_Y_crash_87 : decode c_Y_crash 87 = .ok (.iload_n 1, 1) := by decide +kernel
theorem d_Y_crash_88 : decode c_Y_crash 88 = .ok (.if_icmp .ne 16, 3) := by decide +kernel
theorem d_Y_crash_91 : decode c_Y_crash 91 = .ok (.aload_n 0, 1) := by decide +kernel
theorem d_Y_crash_92 : decode c_Y_crash 92 = .ok (.getfield 53, 3) := by decide +kernel
theorem d_Y_crash_95 : decode c_Y_crash 95 = .ok (.iload_n 3, 1) := by decide +kernel
theorem d_Y_crash_96 : decode c_Y_crash 96 = .ok (.iaload, 1) := by decide +kernel
theorem d_Y_crash_97 : decode c_Y_crash 97 = .ok (.ifCond .ne 7, 3) := by decide +kernel
theorem d_Y_crash_100 : decode c_Y_crash 100 = .ok (.iconst 1, 1) := by decide +kernel
theorem d_Y_crash_101 : decode c_Y_crash 101 = .ok (.goto 4, 3) := by decide +kernel
theorem d_Y_crash_104 : decode c_Y_crash 104 = .ok (.iconst 0, 1) := by decide +kernel
theorem d_Y_crash_105 : decode c_Y_crash 105 = .ok (.bastore, 1) := by decide +kernel
theorem d_Y_crash_106 : decode c_Y_crash 106 = .ok (.iinc 3 1, 3) := by decide +kernel
theorem d_Y_crash_109 : decode c_Y_crash 109 = .ok (.goto (-50), 3) := by decide +kernel
theorem d_Y_crash_112 : decode c_Y_crash 112 = .ok (.iconst 1, 1) := by decide +kernel
theorem d_Y_crash_113 : decode c_Y_crash 113 = .ok (.ireturn, 1) := by decide +kernel
theorem d_Y_restart_0 : decode c_Y_restart 0 = .ok (.iload_n 1, 1) := by decide +kernel
theorem d_Y_restart_1 : decode c_Y_restart 1 = .ok (.invokestatic 76, 3) := by decide +kernel
theorem d_Y_restart_4 : decode c_Y_restart 4 = .ok (.ifCond .ne 12, 3) := by decide +kernel
theorem d_Y_restart_7 : decode c_Y_restart 7 = .ok (.aload_n 0, 1) := by decide +kernel
theorem d_Y_restart_8 : decode c_Y_restart 8 = .ok (.getfield 7, 3) := by decide +kernel
theorem d_Y_restart_11 : decode c_Y_restart 11 = .ok (.iload_n 1, 1) := by decide +kernel
theorem d_Y_restart_12 : decode c_Y_restart 12 = .ok (.baload, 1) := by decide +kernel
theorem d_Y_restart_13 : decode c_Y_restart 13 = .ok (.ifCond .eq 5, 3) := by decide +kernel
theorem d_Y_restart_16 : decode c_Y_restart 16 = .ok (.iconst 0, 1) := by decide +kernel
theorem d_Y_restart_17 : decode c_Y_restart 17 = .ok (.ireturn, 1) := by decide +kernel
theorem d_Y_restart_18 : decode c_Y_restart 18 = .ok (.aload_n 0, 1) := by decide +kernel
theorem d_Y_restart_19 : decode c_Y_restart 19 = .ok (.getfield 7, 3) := by decide +kernel
theorem d_Y_restart_22 : decode c_Y_restart 22 = .ok (.iload_n 1, 1) := by decide +kernel
theorem d_Y_restart_23 : decode c_Y_restart 23 = .ok (.iconst 1, 1) := by decide +kernel
theorem d_Y_restart_24 : decode c_Y_restart 24 = .ok (.bastore, 1) := by decide +kernel
theorem d_Y_restart_25 : decode c_Y_restart 25 = .ok (.aload_n 0, 1) := by decide +kernel
theorem d_Y_restart_26 : decode c_Y_restart 26 = .ok (.iconst 1, 1) := by decide +kernel
theorem d_Y_restart_27 : decode c_Y_restart 27 = .ok (.iload_n 1, 1) := by decide +kernel
theorem d_Y_restart_28 : decode c_Y_restart 28 = .ok (.ishl, 1) := by decide +kernel
theorem d_Y_restart_29 : decode c_Y_restart 29 = .ok (.iload_n 1, 1) := by decide +kernel
theorem d_Y_restart_30 : decode c_Y_restart 30 = .ok (.invokevirtual 147, 3) := by decide +kernel
theorem d_Y_restart_33 : decode c_Y_restart 33 = .ok (.aload_n 0, 1) := by decide +kernel
theorem d_Y_restart_34 : decode c_Y_restart 34 = .ok (.getfield 17, 3) := by decide +kernel
theorem d_Y_restart_37 : decode c_Y_restart 37 = .ok (.iload_n 1, 1) := by decide +kernel
theorem d_Y_restart_38 : decode c_Y_restart 38 = .ok (.aload_n 0, 1) := by decide +kernel
theorem d_Y_restart_39 : decode c_Y_restart 39 = .ok (.getfield 72, 3) := by decide +kernel
theorem d_Y_restart_42 : decode c_Y_restart 42 = .ok (.iastore, 1) := by decide +kernel
theorem d_Y_restart_43 : decode c_Y_restart 43 = .ok (.aload_n 0, 1) := by decide +kernel
theorem d_Y_restart_44 : decode c_Y_restart 44 = .ok (.iload_n 1, 1) := by decide +kernel
theorem d_Y_restart_45 : decode c_Y_restart 45 = .ok (.invokevirtual 135, 3) := by decide +kernel
theorem d_Y_restart_48 : decode c_Y_restart 48 = .ok (.iconst 1, 1) := by decide +kernel
theorem d_Y_restart_49 : decode c_Y_restart 49 = .ok (.ireturn, 1) := by decide +kernel
theorem d_Y_place_0 : decode c_Y_place 0 = .ok (.iload_n 1, 1) := by decide +kernel
theorem d_Y_place_1 : decode c_Y_place 1 = .ok (.invokestatic 76, 3) := by decide +kernel
theorem d_Y_place_4 : decode c_Y_place 4 = .ok (.ifCond .ne 12, 3) := by decide +kernel
theorem d_Y_place_7 : decode c_Y_place 7 = .ok (.iload_n 2, 1) := by decide +kernel
theorem d_Y_place_8 : decode c_Y_place 8 = .ok (.ifCond .lt 8, 3) := by decide +kernel
theorem d_Y_place_11 : decode c_Y_place 11 = .ok (.iload_n 2, 1) := by decide +kernel
theorem d_Y_place_12 : decode c_Y_place 12 = .ok (.iconst 2, 1) := by decide +kernel
theorem d_Y_place_13 : decode c_Y_place 13 = .ok (.if_icmp .le 5, 3) := by decide +kernel
theorem d_Y_place_16 : decode c_Y_place 16 = .ok (.iconst 0, 1) := by decide +kernel
theorem d_Y_place_17 : decode c_Y_place 17 = .ok (.ireturn, 1) := by decide +kernel
theorem d_Y_place_18 : decode c_Y_place 18 = .ok (.aload_n 0, 1) := by decide +kernel
theorem d_Y_place_19 : decode c_Y_place 19 = .ok (.getfield 13, 3) := by decide +kernel
theorem d_Y_place_22 : decode c_Y_place 22 = .ok (.iload_n 1, 1) := by decide +kernel
theorem d_Y_place_23 : decode c_Y_place 23 = .ok (.iload_n 2, 1) := by decide +kernel
theorem d_Y_place_24 : decode c_Y_place 24 = .ok (.iastore, 1) := by decide +kernel
theorem d_Y_place_25 : decode c_Y_place 25 = .ok (.iconst 1, 1) := by decide +kernel
theorem d_Y_place_26 : decode c_Y_place 26 = .ok (.ireturn, 1) := by decide +kernel
theorem d_Y_deafen_0 : decode c_Y_deafen 0 = .ok (.aload_n 0, 1) := by decide +kernel
theorem d_Y_deafen_1 : decode c_Y_deafen 1 = .ok (.iload_n 1, 1) := by decide +kernel
theorem d_Y_deafen_2 : decode c_Y_deafen 2 = .ok (.invokevirtual 91, 3) := by decide +kernel
theorem d_Y_deafen_5 : decode c_Y_deafen 5 = .ok (.ifCond .ne 13, 3) := by decide +kernel
theorem d_Y_deafen_8 : decode c_Y_deafen 8 = .ok (.iload_n 2, 1) := by decide +kernel
theorem d_Y_deafen_9 : decode c_Y_deafen 9 = .ok (.ifCond .lt 9, 3) := by decide +kernel
theorem d_Y_deafen_12 : decode c_Y_deafen 12 = .ok (.iload_n 2, 1) := by decide +kernel
theorem d_Y_deafen_13 : decode c_Y_deafen 13 = .ok (.bipush 20, 2) := by decide +kernel
theorem d_Y_deafen_15 : decode c_Y_deafen 15 = .ok (.if_icmp .le 5, 3) := by decide +kernel
theorem d_Y_deafen_18 : decode c_Y_deafen 18 = .ok (.iconst 0, 1) := by decide +kernel
theorem d_Y_deafen_19 : decode c_Y_deafen 19 = .ok (.ireturn, 1) := by decide +kernel
theorem d_Y_deafen_20 : decode c_Y_deafen 20 = .ok (.aload_n 0, 1) := by decide +kernel
theorem d_Y_deafen_21 : decode c_Y_deafen 21 = .ok (.getfield 26, 3) := by decide +kernel
theorem d_Y_deafen_24 : decode c_Y_deafen 24 = .ok (.iload_n 1, 1) := by decide +kernel
theorem d_Y_deafen_25 : decode c_Y_deafen 25 = .ok (.iload_n 2, 1) := by decide +kernel
theorem d_Y_deafen_26 : decode c_Y_deafen 26 = .ok (.iastore, 1) := by decide +kernel
theorem d_Y_deafen_27 : decode c_Y_deafen 27 = .ok (.iconst 1, 1) := by decide +kernel
theorem d_Y_deafen_28 : decode c_Y_deafen 28 = .ok (.ireturn, 1) := by decide +kernel
theorem d_Y_drop_0 : decode c_Y_drop 0 = .ok (.aload_n 0, 1) := by decide +kernel
theorem d_Y_drop_1 : decode c_Y_drop 1 = .ok (.iload_n 1, 1) := by decide +kernel
theorem d_Y_drop_2 : decode c_Y_drop 2 = .ok (.invokevirtual 91, 3) := by decide +kernel
theorem d_Y_drop_5 : decode c_Y_drop 5 = .ok (.ifCond .ne 18, 3) := by decide +kernel
theorem d_Y_drop_8 : decode c_Y_drop 8 = .ok (.aload_n 0, 1) := by decide +kernel
theorem d_Y_drop_9 : decode c_Y_drop 9 = .ok (.getfield 56, 3) := by decide +kernel
theorem d_Y_drop_12 : decode c_Y_drop 12 = .ok (.aload_n 0, 1) := by decide +kernel
theorem d_Y_drop_13 : decode c_Y_drop 13 = .ok (.getfield 17, 3) := by decide +kernel
theorem d_Y_drop_16 : decode c_Y_drop 16 = .ok (.iload_n 1, 1) := by decide +kernel
theorem d_Y_drop_17 : decode c_Y_drop 17 = .ok (.iaload, 1) := by decide +kernel
theorem d_Y_drop_18 : decode c_Y_drop 18 = .ok (.iaload, 1) := by decide +kernel
theorem d_Y_drop_19 : decode c_Y_drop 19 = .ok (.iconst (-1), 1) := by decide +kernel
theorem d_Y_drop_20 : decode c_Y_drop 20 = .ok (.if_icmp .ne 5, 3) := by decide +kernel
theorem d_Y_drop_23 : decode c_Y_drop 23 = .ok (.iconst 0, 1) := by decide +kernel
theorem d_Y_drop_24 : decode c_Y_drop 24 = .ok (.ireturn, 1) := by decide +kernel
theorem d_Y_drop_25 : decode c_Y_drop 25 = .ok (.aload_n 0, 1) := by decide +kernel
theorem d_Y_drop_26 : decode c_Y_drop 26 = .ok (.getfield 56, 3) := by decide +kernel
theorem d_Y_drop_29 : decode c_Y_drop 29 = .ok (.aload_n 0, 1) := by decide +kernel
theorem d_Y_drop_30 : decode c_Y_drop 30 = .ok (.getfield 17, 3) := by decide +kernel
theorem d_Y_drop_33 : decode c_Y_drop 33 = .ok (.iload_n 1, 1) := by decide +kernel
theorem d_Y_drop_34 : decode c_Y_drop 34 = .ok (.iaload, 1) := by decide +kernel
theorem d_Y_drop_35 : decode c_Y_drop 35 = .ok (.iconst (-1), 1) := by decide +kernel
theorem d_Y_drop_36 : decode c_Y_drop 36 = .ok (.iastore, 1) := by decide +kernel
theorem d_Y_drop_37 : decode c_Y_drop 37 = .ok (.iconst 1, 1) := by decide +kernel
theorem d_Y_drop_38 : decode c_Y_drop 38 = .ok (.ireturn, 1) := by decide +kernel
theorem d_Y_ring_0 : decode c_Y_ring 0 = .ok (.aload_n 0, 1) := by decide +kernel
theorem d_Y_ring_1 : decode c_Y_ring 1 = .ok (.iload_n 1, 1) := by decide +kernel
theorem d_Y_ring_2 : decode c_Y_ring 2 = .ok (.invokevirtual 91, 3) := by decide +kernel
theorem d_Y_ring_5 : decode c_Y_ring 5 = .ok (.istore_n 2, 1) := by decide +kernel
theorem d_Y_ring_6 : decode c_Y_ring 6 = .ok (.iload_n 2, 1) := by decide +kernel
theorem d_Y_ring_7 : decode c_Y_ring 7 = .ok (.ifCond .eq 7, 3) := by decide +kernel
theorem d_Y_ring_10 : decode c_Y_ring 10 = .ok (.iload_n 2, 1) := by decide +kernel
theorem d_Y_ring_11 : decode c_Y_ring 11 = .ok (.goto 9, 3) := by decide +kernel
theorem d_Y_ring_14 : decode c_Y_ring 14 = .ok (.aload_n 0, 1) := by decide +kernel
theorem d_Y_ring_15 : decode c_Y_ring 15 = .ok (.getfield 17, 3) := by decide +kernel
theorem d_Y_ring_18 : decode c_Y_ring 18 = .ok (.iload_n 1, 1) := by decide +kernel
theorem d_Y_ring_19 : decode c_Y_ring 19 = .ok (.iaload, 1) := by decide +kernel
theorem d_Y_ring_20 : decode c_Y_ring 20 = .ok (.ireturn, 1) := by decide +kernel
theorem d_Y_members_0 : decode c_Y_members 0 = .ok (.aload_n 0, 1) := by decide +kernel
theorem d_Y_members_1 : decode c_Y_members 1 = .ok (.iload_n 1, 1) := by decide +kernel
theorem d_Y_members_2 : decode c_Y_members 2 = .ok (.invokevirtual 91, 3) := by decide +kernel
theorem d_Y_members_5 : decode c_Y_members 5 = .ok (.istore_n 2, 1) := by decide +kernel
theorem d_Y_members_6 : decode c_Y_members 6 = .ok (.iload_n 2, 1) := by decide +kernel
theorem d_Y_members_7 : decode c_Y_members 7 = .ok (.ifCond .eq 7, 3) := by decide +kernel
theorem d_Y_members_10 : decode c_Y_members 10 = .ok (.iload_n 2, 1) := by decide +kernel
theorem d_Y_members_11 : decode c_Y_members 11 = .ok (.goto 14, 3) := by decide +kernel
theorem d_Y_members_14 : decode c_Y_members 14 = .ok (.aload_n 0, 1) := by decide +kernel
theorem d_Y_members_15 : decode c_Y_members 15 = .ok (.getfield 62, 3) := by decide +kernel
theorem d_Y_members_18 : decode c_Y_members 18 = .ok (.aload_n 0, 1) := by decide +kernel
theorem d_Y_members_19 : decode c_Y_members 19 = .ok (.getfield 17, 3) := by decide +kernel
theorem d_Y_members_22 : decode c_Y_members 22 = .ok (.iload_n 1, 1) := by decide +kernel
theorem d_Y_members_23 : decode c_Y_members 23 = .ok (.iaload, 1) := by decide +kernel
theorem d_Y_members_24 : decode c_Y_members 24 = .ok (.iaload, 1) := by decide +kernel
theorem d_Y_members_25 : decode c_Y_members 25 = .ok (.ireturn, 1) := by decide +kernel
theorem d_Y_token_0 : decode c_Y_token 0 = .ok (.aload_n 0, 1) := by decide +kernel
theorem d_Y_token_1 : decode c_Y_token 1 = .ok (.iload_n 1, 1) := by decide +kernel
theorem d_Y_token_2 : decode c_Y_token 2 = .ok (.invokevirtual 91, 3) := by decide +kernel
theorem d_Y_token_5 : decode c_Y_token 5 = .ok (.istore_n 2, 1) := by decide +kernel
theorem d_Y_token_6 : decode c_Y_token 6 = .ok (.iload_n 2, 1) := by decide +kernel
theorem d_Y_token_7 : decode c_Y_token 7 = .ok (.ifCond .eq 7, 3) := by decide +kernel
theorem d_Y_token_10 : decode c_Y_token 10 = .ok (.iload_n 2, 1) := by decide +kernel
theorem d_Y_token_11 : decode c_Y_token 11 = .ok (.goto 14, 3) := by decide +kernel
theorem d_Y_token_14 : decode c_Y_token 14 = .ok (.aload_n 0, 1) := by decide +kernel
theorem d_Y_token_15 : decode c_Y_token 15 = .ok (.getfield 56, 3) := by decide +kernel
theorem d_Y_token_18 : decode c_Y_token 18 = .ok (.aload_n 0, 1) := by decide +kernel
theorem d_Y_token_19 : decode c_Y_token 19 = .ok (.getfield 17, 3) := by decide +kernel
theorem d_Y_token_22 : decode c_Y_token 22 = .ok (.iload_n 1, 1) := by decide +kernel
theorem d_Y_token_23 : decode c_Y_token 23 = .ok (.iaload, 1) := by decide +kernel
theorem d_Y_token_24 : decode c_Y_token 24 = .ok (.iaload, 1) := by decide +kernel
theorem d_Y_token_25 : decode c_Y_token 25 = .ok (.ireturn, 1) := by decide +kernel
theorem d_Y_last_0 : decode c_Y_last 0 = .ok (.aload_n 0, 1) := by decide +kernel
theorem d_Y_last_1 : decode c_Y_last 1 = .ok (.iload_n 1, 1) := by decide +kernel
theorem d_Y_last_2 : decode c_Y_last 2 = .ok (.invokevirtual 91, 3) := by decide +kernel
theorem d_Y_last_5 : decode c_Y_last 5 = .ok (.istore_n 2, 1) := by decide +kernel
theorem d_Y_last_6 : decode c_Y_last 6 = .ok (.iload_n 2, 1) := by decide +kernel
theorem d_Y_last_7 : decode c_Y_last 7 = .ok (.ifCond .eq 7, 3) := by decide +kernel
theorem d_Y_last_10 : decode c_Y_last 10 = .ok (.iload_n 2, 1) := by decide +kernel
theorem d_Y_last_11 : decode c_Y_last 11 = .ok (.goto 33, 3) := by decide +kernel
theorem d_Y_last_14 : decode c_Y_last 14 = .ok (.aload_n 0, 1) := by decide +kernel
theorem d_Y_last_15 : decode c_Y_last 15 = .ok (.getfield 56, 3) := by decide +kernel
theorem d_Y_last_18 : decode c_Y_last 18 = .ok (.aload_n 0, 1) := by decide +kernel
theorem d_Y_last_19 : decode c_Y_last 19 = .ok (.getfield 17, 3) := by decide +kernel
theorem d_Y_last_22 : decode c_Y_last 22 = .ok (.iload_n 1, 1) := by decide +kernel
theorem d_Y_last_23 : decode c_Y_last 23 = .ok (.iaload, 1) := by decide +kernel
theorem d_Y_last_24 : decode c_Y_last 24 = .ok (.iaload, 1) := by decide +kernel
theorem d_Y_last_25 : decode c_Y_last 25 = .ok (.iconst (-1), 1) := by decide +kernel
theorem d_Y_last_26 : decode c_Y_last 26 = .ok (.if_icmp .ne 7, 3) := by decide +kernel
theorem d_Y_last_29 : decode c_Y_last 29 = .ok (.iconst (-1), 1) := by decide +kernel
theorem d_Y_last_30 : decode c_Y_last 30 = .ok (.goto 14, 3) := by decide +kernel
theorem d_Y_last_33 : decode c_Y_last 33 = .ok (.aload_n 0, 1) := by decide +kernel
theorem d_Y_last_34 : decode c_Y_last 34 = .ok (.getfield 59, 3) := by decide +kernel
theorem d_Y_last_37 : decode c_Y_last 37 = .ok (.aload_n 0, 1) := by decide +kernel
theorem d_Y_last_38 : decode c_Y_last 38 = .ok (.getfield 17, 3) := by decide +kernel
theorem d_Y_last_41 : decode c_Y_last 41 = .ok (.iload_n 1, 1) := by decide +kernel
theorem d_Y_last_42 : decode c_Y_last 42 = .ok (.iaload, 1) := by decide +kernel
theorem d_Y_last_43 : decode c_Y_last 43 = .ok (.iaload, 1) := by decide +kernel
theorem d_Y_last_44 : decode c_Y_last 44 = .ok (.ireturn, 1) := by decide +kernel
theorem d_Y_requests_0 : decode c_Y_requests 0 = .ok (.aload_n 0, 1) := by decide +kernel
theorem d_Y_requests_1 : decode c_Y_requests 1 = .ok (.iload_n 1, 1) := by decide +kernel
theorem d_Y_requests_2 : decode c_Y_requests 2 = .ok (.invokevirtual 91, 3) := by decide +kernel
theorem d_Y_requests_5 : decode c_Y_requests 5 = .ok (.istore_n 2, 1) := by decide +kernel
theorem d_Y_requests_6 : decode c_Y_requests 6 = .ok (.iload_n 2, 1) := by decide +kernel
theorem d_Y_requests_7 : decode c_Y_requests 7 = .ok (.ifCond .eq 5, 3) := by decide +kernel
theorem d_Y_requests_10 : decode c_Y_requests 10 = .ok (.iload_n 2, 1) := by decide +kernel
theorem d_Y_requests_11 : decode c_Y_requests 11 = .ok (.ireturn, 1) := by decide +kernel
theorem d_Y_requests_12 : decode c_Y_requests 12 = .ok (.aload_n 0, 1) := by decide +kernel
theorem d_Y_requests_13 : decode c_Y_requests 13 = .ok (.getfield 17, 3) := by decide +kernel
theorem d_Y_requests_16 : decode c_Y_requests 16 = .ok (.iload_n 1, 1) := by decide +kernel
theorem d_Y_requests_17 : decode c_Y_requests 17 = .ok (.iaload, 1) := by decide +kernel
theorem d_Y_requests_18 : decode c_Y_requests 18 = .ok (.istore_n 3, 1) := by decide +kernel
theorem d_Y_requests_19 : decode c_Y_requests 19 = .ok (.iconst 0, 1) := by decide +kernel
theorem d_Y_requests_20 : decode c_Y_requests 20 = .ok (.istore 4, 2) := by decide +kernel
theorem d_Y_requests_22 : decode c_Y_requests 22 = .ok (.iconst 1, 1) := by decide +kernel
theorem d_Y_requests_23 : decode c_Y_requests 23 = .ok (.istore 5, 2) := by decide +kernel
theorem d_Y_requests_25 : decode c_Y_requests 25 = .ok (.iload 5, 2) := by decide +kernel
theorem d_Y_requests_27 : decode c_Y_requests 27 = .ok (.bipush 48, 2) := by decide +kernel
theorem d_Y_requests_29 : decode c_Y_requests 29 = .ok (.if_icmp .gt 26, 3) := by decide +kernel
theorem d_Y_requests_32 : decode c_Y_requests 32 = .ok (.iload 4, 2) := by decide +kernel
theorem d_Y_requests_34 : decode c_Y_requests 34 = .ok (.aload_n 0, 1) := by decide +kernel
theorem d_Y_requests_35 : decode c_Y_requests 35 = .ok (.getfield 68, 3) := by decide +kernel
theorem d_Y_requests_38 : decode c_Y_requests 38 = .ok (.iload_n 3, 1) := by decide +kernel
theorem d_Y_requests_39 : decode c_Y_requests 39 = .ok (.laload, 1) := by decide +kernel
theorem d_Y_requests_40 : decode c_Y_requests 40 = .ok (.iload 5, 2) := by decide +kernel
theorem d_Y_requests_42 : decode c_Y_requests 42 = .ok (.lshr, 1) := by decide +kernel
theorem d_Y_requests_43 : decode c_Y_requests 43 = .ok (.lconst 1, 1) := by decide +kernel
theorem d_Y_requests_44 : decode c_Y_requests 44 = .ok (.land, 1) := by decide +kernel
theorem d_Y_requests_45 : decode c_Y_requests 45 = .ok (.l2i, 1) := by decide +kernel
theorem d_Y_requests_46 : decode c_Y_requests 46 = .ok (.iadd, 1) := by decide +kernel
theorem d_Y_requests_47 : decode c_Y_requests 47 = .ok (.istore 4, 2) := by decide +kernel
theorem d_Y_requests_49 : decode c_Y_requests 49 = .ok (.iinc 5 1, 3) := by decide +kernel
theorem d_Y_requests_52 : decode c_Y_requests 52 = .ok (.goto (-27), 3) := by decide +kernel
theorem d_Y_requests_55 : decode c_Y_requests 55 = .ok (.aload_n 0, 1) := by decide +kernel
theorem d_Y_requests_56 : decode c_Y_requests 56 = .ok (.getfield 56, 3) := by decide +kernel
theorem d_Y_requests_59 : decode c_Y_requests 59 = .ok (.iload_n 3, 1) := by decide +kernel
theorem d_Y_requests_60 : decode c_Y_requests 60 = .ok (.iaload, 1) := by decide +kernel
theorem d_Y_requests_61 : decode c_Y_requests 61 = .ok (.iconst (-1), 1) := by decide +kernel
theorem d_Y_requests_62 : decode c_Y_requests 62 = .ok (.if_icmp .ne 7, 3) := by decide +kernel
theorem d_Y_requests_65 : decode c_Y_requests 65 = .ok (.iconst (-1), 1) := by decide +kernel
theorem d_Y_requests_66 : decode c_Y_requests 66 = .ok (.goto 5, 3) := by decide +kernel
theorem d_Y_requests_69 : decode c_Y_requests 69 = .ok (.iload 4, 2) := by decide +kernel
theorem d_Y_requests_71 : decode c_Y_requests 71 = .ok (.ireturn, 1) := by decide +kernel
theorem d_Y_reach_0 : decode c_Y_reach 0 = .ok (.aload_n 0, 1) := by decide +kernel
theorem d_Y_reach_1 : decode c_Y_reach 1 = .ok (.iload_n 1, 1) := by decide +kernel
theorem d_Y_reach_2 : decode c_Y_reach 2 = .ok (.invokevirtual 91, 3) := by decide +kernel
theorem d_Y_reach_5 : decode c_Y_reach 5 = .ok (.istore_n 2, 1) := by decide +kernel
theorem d_Y_reach_6 : decode c_Y_reach 6 = .ok (.iload_n 2, 1) := by decide +kernel
theorem d_Y_reach_7 : decode c_Y_reach 7 = .ok (.ifCond .eq 7, 3) := by decide +kernel
theorem d_Y_reach_10 : decode c_Y_reach 10 = .ok (.iload_n 2, 1) := by decide +kernel
theorem d_Y_reach_11 : decode c_Y_reach 11 = .ok (.goto 8, 3) := by decide +kernel
theorem d_Y_reach_14 : decode c_Y_reach 14 = .ok (.aload_n 0, 1) := by decide +kernel
theorem d_Y_reach_15 : decode c_Y_reach 15 = .ok (.iload_n 1, 1) := by decide +kernel
theorem d_Y_reach_16 : decode c_Y_reach 16 = .ok (.invokevirtual 119, 3) := by decide +kernel
theorem d_Y_reach_19 : decode c_Y_reach 19 = .ok (.ireturn, 1) := by decide +kernel
theorem d_Y_line_0 : decode c_Y_line 0 = .ok (.aload_n 0, 1) := by decide +kernel
theorem d_Y_line_1 : decode c_Y_line 1 = .ok (.iload_n 1, 1) := by decide +kernel
theorem d_Y_line_2 : decode c_Y_line 2 = .ok (.invokevirtual 91, 3) := by decide +kernel
theorem d_Y_line_5 : decode c_Y_line 5 = .ok (.istore_n 2, 1) := by decide +kernel
theorem d_Y_line_6 : decode c_Y_line 6 = .ok (.iload_n 2, 1) := by decide +kernel
theorem d_Y_line_7 : decode c_Y_line 7 = .ok (.ifCond .eq 7, 3) := by decide +kernel
theorem d_Y_line_10 : decode c_Y_line 10 = .ok (.iload_n 2, 1) := by decide +kernel
theorem d_Y_line_11 : decode c_Y_line 11 = .ok (.goto 9, 3) := by decide +kernel
theorem d_Y_line_14 : decode c_Y_line 14 = .ok (.aload_n 0, 1) := by decide +kernel
theorem d_Y_line_15 : decode c_Y_line 15 = .ok (.getfield 20, 3) := by decide +kernel
theorem d_Y_line_18 : decode c_Y_line 18 = .ok (.iload_n 1, 1) := by decide +kernel
theorem d_Y_line_19 : decode c_Y_line 19 = .ok (.iaload, 1) := by decide +kernel
theorem d_Y_line_20 : decode c_Y_line 20 = .ok (.ireturn, 1) := by decide +kernel
theorem d_Y_waiting_0 : decode c_Y_waiting 0 = .ok (.aload_n 0, 1) := by decide +kernel
theorem d_Y_waiting_1 : decode c_Y_waiting 1 = .ok (.iload_n 1, 1) := by decide +kernel
theorem d_Y_waiting_2 : decode c_Y_waiting 2 = .ok (.invokevirtual 91, 3) := by decide +kernel
theorem d_Y_waiting_5 : decode c_Y_waiting 5 = .ok (.istore_n 2, 1) := by decide +kernel
theorem d_Y_waiting_6 : decode c_Y_waiting 6 = .ok (.iload_n 2, 1) := by decide +kernel
theorem d_Y_waiting_7 : decode c_Y_waiting 7 = .ok (.ifCond .eq 7, 3) := by decide +kernel
theorem d_Y_waiting_10 : decode c_Y_waiting 10 = .ok (.iload_n 2, 1) := by decide +kernel
theorem d_Y_waiting_11 : decode c_Y_waiting 11 = .ok (.goto 8, 3) := by decide +kernel
theorem d_Y_waiting_14 : decode c_Y_waiting 14 = .ok (.aload_n 0, 1) := by decide +kernel
theorem d_Y_waiting_15 : decode c_Y_waiting 15 = .ok (.iload_n 1, 1) := by decide +kernel
theorem d_Y_waiting_16 : decode c_Y_waiting 16 = .ok (.invokevirtual 95, 3) := by decide +kernel
theorem d_Y_waiting_19 : decode c_Y_waiting 19 = .ok (.ireturn, 1) := by decide +kernel
theorem d_Y_delivered_0 : decode c_Y_delivered 0 = .ok (.iload_n 1, 1) := by decide +kernel
theorem d_Y_delivered_1 : decode c_Y_delivered 1 = .ok (.invokestatic 76, 3) := by decide +kernel
theorem d_Y_delivered_4 : decode c_Y_delivered 4 = .ok (.ifCond .eq 8, 3) := by decide +kernel
theorem d_Y_delivered_7 : decode c_Y_delivered 7 = .ok (.bipush (-3), 2) := by decide +kernel
theorem d_Y_delivered_9 : decode c_Y_delivered 9 = .ok (.goto 9, 3) := by decide +kernel
theorem d_Y_delivered_12 : decode c_Y_delivered 12 = .ok (.aload_n 0, 1) := by decide +kernel
theorem d_Y_delivered_13 : decode c_Y_delivered 13 = .ok (.getfield 38, 3) := by decide +kernel
theorem d_Y_delivered_16 : decode c_Y_delivered 16 = .ok (.iload_n 1, 1) := by decide +kernel
theorem d_Y_delivered_17 : decode c_Y_delivered 17 = .ok (.iaload, 1) := by decide +kernel
theorem d_Y_delivered_18 : decode c_Y_delivered 18 = .ok (.ireturn, 1) := by decide +kernel
theorem d_Y_log_0 : decode c_Y_log 0 = .ok (.iload_n 1, 1) := by decide +kernel
theorem d_Y_log_1 : decode c_Y_log 1 = .ok (.invokestatic 76, 3) := by decide +kernel
theorem d_Y_log_4 : decode c_Y_log 4 = .ok (.ifCond .ne 17, 3) := by decide +kernel
theorem d_Y_log_7 : decode c_Y_log 7 = .ok (.iload_n 2, 1) := by decide +kernel
theorem d_Y_log_8 : decode c_Y_log 8 = .ok (.ifCond .lt 13, 3) := by decide +kernel
theorem d_Y_log_11 : decode c_Y_log 11 = .ok (.iload_n 2, 1) := by decide +kernel
theorem d_Y_log_12 : decode c_Y_log 12 = .ok (.aload_n 0, 1) := by decide +kernel
theorem d_Y_log_13 : decode c_Y_log 13 = .ok (.getfield 38, 3) := by decide +kernel
theorem d_Y_log_16 : decode c_Y_log 16 = .ok (.iload_n 1, 1) := by decide +kernel
theorem d_Y_log_17 : decode c_Y_log 17 = .ok (.iaload, 1) := by decide +kernel
theorem d_Y_log_18 : decode c_Y_log 18 = .ok (.if_icmp .lt 8, 3) := by decide +kernel
theorem d_Y_log_21 : decode c_Y_log 21 = .ok (.bipush (-3), 2) := by decide +kernel
theorem d_Y_log_23 : decode c_Y_log 23 = .ok (.goto 14, 3) := by decide +kernel
theorem d_Y_log_26 : decode c_Y_log 26 = .ok (.aload_n 0, 1) := by decide +kernel
theorem d_Y_log_27 : decode c_Y_log 27 = .ok (.getfield 35, 3) := by decide +kernel
theorem d_Y_log_30 : decode c_Y_log 30 = .ok (.bipush 48, 2) := by decide +kernel
theorem d_Y_log_32 : decode c_Y_log 32 = .ok (.iload_n 1, 1) := by decide +kernel
theorem d_Y_log_33 : decode c_Y_log 33 = .ok (.imul, 1) := by decide +kernel
theorem d_Y_log_34 : decode c_Y_log 34 = .ok (.iload_n 2, 1) := by decide +kernel
theorem d_Y_log_35 : decode c_Y_log 35 = .ok (.iadd, 1) := by decide +kernel
theorem d_Y_log_36 : decode c_Y_log 36 = .ok (.iaload, 1) := by decide +kernel
theorem d_Y_log_37 : decode c_Y_log 37 = .ok (.ireturn, 1) := by decide +kernel
theorem d_Y_stamp_0 : decode c_Y_stamp 0 = .ok (.iload_n 1, 1) := by decide +kernel
theorem d_Y_stamp_1 : decode c_Y_stamp 1 = .ok (.iconst 1, 1) := by decide +kernel
theorem d_Y_stamp_2 : decode c_Y_stamp 2 = .ok (.if_icmp .lt 11, 3) := by decide +kernel
theorem d_Y_stamp_5 : decode c_Y_stamp 5 = .ok (.iload_n 1, 1) := by decide +kernel
theorem d_Y_stamp_6 : decode c_Y_stamp 6 = .ok (.aload_n 0, 1) := by decide +kernel
theorem d_Y_stamp_7 : decode c_Y_stamp 7 = .ok (.getfield 80, 3) := by decide +kernel
theorem d_Y_stamp_10 : decode c_Y_stamp 10 = .ok (.if_icmp .le 8, 3) := by decide +kernel
theorem d_Y_stamp_13 : decode c_Y_stamp 13 = .ok (.bipush (-3), 2) := by decide +kernel
theorem d_Y_stamp_15 : decode c_Y_stamp 15 = .ok (.goto 32, 3) := by decide +kernel
theorem d_Y_stamp_18 : decode c_Y_stamp 18 = .ok (.aload_n 0, 1) := by decide +kernel
theorem d_Y_stamp_19 : decode c_Y_stamp 19 = .ok (.getfield 53, 3) := by decide +kernel
theorem d_Y_stamp_22 : decode c_Y_stamp 22 = .ok (.iload_n 1, 1) := by decide +kernel
theorem d_Y_stamp_23 : decode c_Y_stamp 23 = .ok (.iaload, 1) := by decide +kernel
theorem d_Y_stamp_24 : decode c_Y_stamp 24 = .ok (.ifCond .ne 7, 3) := by decide +kernel
theorem d_Y_stamp_27 : decode c_Y_stamp 27 = .ok (.iconst 0, 1) := by decide +kernel
theorem d_Y_stamp_28 : decode c_Y_stamp 28 = .ok (.goto 19, 3) := by decide +kernel
theorem d_Y_stamp_31 : decode c_Y_stamp 31 = .ok (.aload_n 0, 1) := by decide +kernel
theorem d_Y_stamp_32 : decode c_Y_stamp 32 = .ok (.getfield 53, 3) := by decide +kernel
theorem d_Y_stamp_35 : decode c_Y_stamp 35 = .ok (.iload_n 1, 1) := by decide +kernel
theorem d_Y_stamp_36 : decode c_Y_stamp 36 = .ok (.iaload, 1) := by decide +kernel
theorem d_Y_stamp_37 : decode c_Y_stamp 37 = .ok (.bipush 64, 2) := by decide +kernel
theorem d_Y_stamp_39 : decode c_Y_stamp 39 = .ok (.aload_n 0, 1) := by decide +kernel
theorem d_Y_stamp_40 : decode c_Y_stamp 40 = .ok (.getfield 50, 3) := by decide +kernel
theorem d_Y_stamp_43 : decode c_Y_stamp 43 = .ok (.iload_n 1, 1) := by decide +kernel
theorem d_Y_stamp_44 : decode c_Y_stamp 44 = .ok (.iaload, 1) := by decide +kernel
theorem d_Y_stamp_45 : decode c_Y_stamp 45 = .ok (.imul, 1) := by decide +kernel
theorem d_Y_stamp_46 : decode c_Y_stamp 46 = .ok (.iadd, 1) := by decide +kernel
theorem d_Y_stamp_47 : decode c_Y_stamp 47 = .ok (.ireturn, 1) := by decide +kernel
theorem d_M_init_0 : decode c_M_init 0 = .ok (.aload_n 0, 1) := by decide +kernel
theorem d_M_init_1 : decode c_M_init 1 = .ok (.invokespecial 3, 3) := by decide +kernel
theorem d_M_init_4 : decode c_M_init 4 = .ok (.aload_n 0, 1) := by decide +kernel
theorem d_M_init_5 : decode c_M_init 5 = .ok (.bipush 49, 2) := by decide +kernel
theorem d_M_init_7 : decode c_M_init 7 = .ok (.newarray .int, 2) := by decide +kernel
theorem d_M_init_9 : decode c_M_init 9 = .ok (.putfield 9, 3) := by decide +kernel
theorem d_M_init_12 : decode c_M_init 12 = .ok (.aload_n 0, 1) := by decide +kernel
theorem d_M_init_13 : decode c_M_init 13 = .ok (.bipush 49, 2) := by decide +kernel
theorem d_M_init_15 : decode c_M_init 15 = .ok (.newarray .boolean, 2) := by decide +kernel
theorem d_M_init_17 : decode c_M_init 17 = .ok (.putfield 15, 3) := by decide +kernel
theorem d_M_init_20 : decode c_M_init 20 = .ok (.aload_n 0, 1) := by decide +kernel
theorem d_M_init_21 : decode c_M_init 21 = .ok (.bipush 49, 2) := by decide +kernel
theorem d_M_init_23 : decode c_M_init 23 = .ok (.newarray .int, 2) := by decide +kernel
theorem d_M_init_25 : decode c_M_init 25 = .ok (.putfield 19, 3) := by decide +kernel
theorem d_M_init_28 : decode c_M_init 28 = .ok (.return_, 1) := by decide +kernel
theorem d_M_take_0 : decode c_M_take 0 = .ok (.aload_n 0, 1) := by decide +kernel
theorem d_M_take_1 : decode c_M_take 1 = .ok (.dup, 1) := by decide +kernel
theorem d_M_take_2 : decode c_M_take 2 = .ok (.getfield 22, 3) := by decide +kernel
theorem d_M_take_5 : decode c_M_take 5 = .ok (.iconst 1, 1) := by decide +kernel
theorem d_M_take_6 : decode c_M_take 6 = .ok (.iadd, 1) := by decide +kernel
theorem d_M_take_7 : decode c_M_take 7 = .ok (.putfield 22, 3) := by decide +kernel
theorem d_M_take_10 : decode c_M_take 10 = .ok (.aload_n 0, 1) := by decide +kernel
theorem d_M_take_11 : decode c_M_take 11 = .ok (.getfield 9, 3) := by decide +kernel
theorem d_M_take_14 : decode c_M_take 14 = .ok (.aload_n 0, 1) := by decide +kernel
theorem d_M_take_15 : decode c_M_take 15 = .ok (.getfield 22, 3) := by decide +kernel
theorem d_M_take_18 : decode c_M_take 18 = .ok (.iload_n 1, 1) := by decide +kernel
theorem d_M_take_19 : decode c_M_take 19 = .ok (.iastore, 1) := by decide +kernel
theorem d_M_take_20 : decode c_M_take 20 = .ok (.aload_n 0, 1) := by decide +kernel
theorem d_M_take_21 : decode c_M_take 21 = .ok (.getfield 15, 3) := by decide +kernel
theorem d_M_take_24 : decode c_M_take 24 = .ok (.aload_n 0, 1) := by decide +kernel
theorem d_M_take_25 : decode c_M_take 25 = .ok (.getfield 22, 3) := by decide +kernel
theorem d_M_take_28 : decode c_M_take 28 = .ok (.iload_n 2, 1) := by decide +kernel
theorem d_M_take_29 : decode c_M_take 29 = .ok (.bastore, 1) := by decide +kernel
theorem d_M_take_30 : decode c_M_take 30 = .ok (.aload_n 0, 1) := by decide +kernel
theorem d_M_take_31 : decode c_M_take 31 = .ok (.getfield 22, 3) := by decide +kernel
theorem d_M_take_34 : decode c_M_take 34 = .ok (.ireturn, 1) := by decide +kernel
theorem d_N_init_0 : decode c_N_init 0 = .ok (.aload_n 0, 1) := by decide +kernel
theorem d_N_init_1 : decode c_N_init 1 = .ok (.invokespecial 3, 3) := by decide +kernel
theorem d_N_init_4 : decode c_N_init 4 = .ok (.aload_n 0, 1) := by decide +kernel
theorem d_N_init_5 : decode c_N_init 5 = .ok (.iload_n 1, 1) := by decide +kernel
theorem d_N_init_6 : decode c_N_init 6 = .ok (.putfield 9, 3) := by decide +kernel
theorem d_N_init_9 : decode c_N_init 9 = .ok (.aload_n 0, 1) := by decide +kernel
theorem d_N_init_10 : decode c_N_init 10 = .ok (.bipush 8, 2) := by decide +kernel
theorem d_N_init_12 : decode c_N_init 12 = .ok (.newarray .int, 2) := by decide +kernel
theorem d_N_init_14 : decode c_N_init 14 = .ok (.putfield 15, 3) := by decide +kernel
theorem d_N_init_17 : decode c_N_init 17 = .ok (.aload_n 0, 1) := by decide +kernel
theorem d_N_init_18 : decode c_N_init 18 = .ok (.bipush 48, 2) := by decide +kernel
theorem d_N_init_20 : decode c_N_init 20 = .ok (.newarray .int, 2) := by decide +kernel
end
section
/-! decode rows, by program out of the listing -/
theorem d_N_init_22 : decode c_N_init 22 = .ok (.putfield 19, 3) := by decide +kernel
theorem d_N_init_25 : decode c_N_init 25 = .ok (.return_, 1) := by decide +kernel
theorem d_N_isUp_0 : decode c_N_isUp 0 = .ok (.aload_n 0, 1) := by decide +kernel
theorem d_N_isUp_1 : decode c_N_isUp 1 = .ok (.getfield 22, 3) := by decide +kernel
theorem d_N_isUp_4 : decode c_N_isUp 4 = .ok (.ifnull 7, 3) := by decide +kernel
theorem d_N_isUp_7 : decode c_N_isUp 7 = .ok (.iconst 1, 1) := by decide +kernel
theorem d_N_isUp_8 : decode c_N_isUp 8 = .ok (.goto 4, 3) := by decide +kernel
theorem d_N_isUp_11 : decode c_N_isUp 11 = .ok (.iconst 0, 1) := by decide +kernel
theorem d_N_isUp_12 : decode c_N_isUp 12 = .ok (.ireturn, 1) := by decide +kernel
theorem d_N_holds_0 : decode c_N_holds 0 = .ok (.aload_n 0, 1) := by decide +kernel
theorem d_N_holds_1 : decode c_N_holds 1 = .ok (.getfield 26, 3) := by decide +kernel
theorem d_N_holds_4 : decode c_N_holds 4 = .ok (.lconst 1, 1) := by decide +kernel
theorem d_N_holds_5 : decode c_N_holds 5 = .ok (.iload_n 1, 1) := by decide +kernel
theorem d_N_holds_6 : decode c_N_holds 6 = .ok (.lshl, 1) := by decide +kernel
theorem d_N_holds_7 : decode c_N_holds 7 = .ok (.land, 1) := by decide +kernel
theorem d_N_holds_8 : decode c_N_holds 8 = .ok (.lconst 0, 1) := by decide +kernel
theorem d_N_holds_9 : decode c_N_holds 9 = .ok (.lcmp, 1) := by decide +kernel
theorem d_N_holds_10 : decode c_N_holds 10 = .ok (.ifCond .eq 7, 3) := by decide +kernel
theorem d_N_holds_13 : decode c_N_holds 13 = .ok (.iconst 1, 1) := by decide +kernel
theorem d_N_holds_14 : decode c_N_holds 14 = .ok (.goto 4, 3) := by decide +kernel
theorem d_N_holds_17 : decode c_N_holds 17 = .ok (.iconst 0, 1) := by decide +kernel
theorem d_N_holds_18 : decode c_N_holds 18 = .ok (.ireturn, 1) := by decide +kernel
theorem d_N_hold_0 : decode c_N_hold 0 = .ok (.aload_n 0, 1) := by decide +kernel
theorem d_N_hold_1 : decode c_N_hold 1 = .ok (.dup, 1) := by decide +kernel
theorem d_N_hold_2 : decode c_N_hold 2 = .ok (.getfield 26, 3) := by decide +kernel
theorem d_N_hold_5 : decode c_N_hold 5 = .ok (.lconst 1, 1) := by decide +kernel
theorem d_N_hold_6 : decode c_N_hold 6 = .ok (.iload_n 1, 1) := by decide +kernel
theorem d_N_hold_7 : decode c_N_hold 7 = .ok (.lshl, 1) := by decide +kernel
theorem d_N_hold_8 : decode c_N_hold 8 = .ok (.lor, 1) := by decide +kernel
theorem d_N_hold_9 : decode c_N_hold 9 = .ok (.putfield 26, 3) := by decide +kernel
theorem d_N_hold_12 : decode c_N_hold 12 = .ok (.return_, 1) := by decide +kernel
theorem d_N_receive_0 : decode c_N_receive 0 = .ok (.aload_n 0, 1) := by decide +kernel
theorem d_N_receive_1 : decode c_N_receive 1 = .ok (.getfield 30, 3) := by decide +kernel
theorem d_N_receive_4 : decode c_N_receive 4 = .ok (.ifCond .le 16, 3) := by decide +kernel
theorem d_N_receive_7 : decode c_N_receive 7 = .ok (.aload_n 0, 1) := by decide +kernel
theorem d_N_receive_8 : decode c_N_receive 8 = .ok (.dup, 1) := by decide +kernel
theorem d_N_receive_9 : decode c_N_receive 9 = .ok (.getfield 30, 3) := by decide +kernel
theorem d_N_receive_12 : decode c_N_receive 12 = .ok (.iconst 1, 1) := by decide +kernel
theorem d_N_receive_13 : decode c_N_receive 13 = .ok (.isub, 1) := by decide +kernel
theorem d_N_receive_14 : decode c_N_receive 14 = .ok (.putfield 30, 3) := by decide +kernel
theorem d_N_receive_17 : decode c_N_receive 17 = .ok (.goto 8, 3) := by decide +kernel
theorem d_N_receive_20 : decode c_N_receive 20 = .ok (.aload_n 0, 1) := by decide +kernel
theorem d_N_receive_21 : decode c_N_receive 21 = .ok (.iload_n 1, 1) := by decide +kernel
theorem d_N_receive_22 : decode c_N_receive 22 = .ok (.invokevirtual 33, 3) := by decide +kernel
theorem d_N_receive_25 : decode c_N_receive 25 = .ok (.return_, 1) := by decide +kernel
theorem d_N_heldWithoutGap_0 : decode c_N_heldWithoutGap 0 = .ok (.iconst 0, 1) := by decide +kernel
theorem d_N_heldWithoutGap_1 : decode c_N_heldWithoutGap 1 = .ok (.istore_n 1, 1) := by decide +kernel
theorem d_N_heldWithoutGap_2 : decode c_N_heldWithoutGap 2 = .ok (.iload_n 1, 1) := by decide +kernel
theorem d_N_heldWithoutGap_3 : decode c_N_heldWithoutGap 3 = .ok (.bipush 48, 2) := by decide +kernel
theorem d_N_heldWithoutGap_5 : decode c_N_heldWithoutGap 5 = .ok (.if_icmp .ge 19, 3) := by decide +kernel
theorem d_N_heldWithoutGap_8 : decode c_N_heldWithoutGap 8 = .ok (.aload_n 0, 1) := by decide +kernel
theorem d_N_heldWithoutGap_9 : decode c_N_heldWithoutGap 9 = .ok (.iload_n 1, 1) := by decide +kernel
theorem d_N_heldWithoutGap_10 : decode c_N_heldWithoutGap 10 = .ok (.iconst 1, 1) := by decide +kernel
theorem d_N_heldWithoutGap_11 : decode c_N_heldWithoutGap 11 = .ok (.iadd, 1) := by decide +kernel
theorem d_N_heldWithoutGap_12 : decode c_N_heldWithoutGap 12 = .ok (.invokevirtual 37, 3) := by decide +kernel
theorem d_N_heldWithoutGap_15 : decode c_N_heldWithoutGap 15 = .ok (.ifCond .eq 9, 3) := by decide +kernel
theorem d_N_heldWithoutGap_18 : decode c_N_heldWithoutGap 18 = .ok (.iinc 1 1, 3) := by decide +kernel
theorem d_N_heldWithoutGap_21 : decode c_N_heldWithoutGap 21 = .ok (.goto (-19), 3) := by decide +kernel
theorem d_N_heldWithoutGap_24 : decode c_N_heldWithoutGap 24 = .ok (.iload_n 1, 1) := by decide +kernel
theorem d_N_heldWithoutGap_25 : decode c_N_heldWithoutGap 25 = .ok (.ireturn, 1) := by decide +kernel
theorem d_N_enqueue_0 : decode c_N_enqueue 0 = .ok (.aload_n 0, 1) := by decide +kernel
theorem d_N_enqueue_1 : decode c_N_enqueue 1 = .ok (.getfield 41, 3) := by decide +kernel
theorem d_N_enqueue_4 : decode c_N_enqueue 4 = .ok (.bipush 8, 2) := by decide +kernel
theorem d_N_enqueue_6 : decode c_N_enqueue 6 = .ok (.if_icmp .ge 23, 3) := by decide +kernel
theorem d_N_enqueue_9 : decode c_N_enqueue 9 = .ok (.aload_n 0, 1) := by decide +kernel
theorem d_N_enqueue_10 : decode c_N_enqueue 10 = .ok (.getfield 15, 3) := by decide +kernel
theorem d_N_enqueue_13 : decode c_N_enqueue 13 = .ok (.aload_n 0, 1) := by decide +kernel
theorem d_N_enqueue_14 : decode c_N_enqueue 14 = .ok (.getfield 41, 3) := by decide +kernel
theorem d_N_enqueue_17 : decode c_N_enqueue 17 = .ok (.iload_n 1, 1) := by decide +kernel
theorem d_N_enqueue_18 : decode c_N_enqueue 18 = .ok (.iastore, 1) := by decide +kernel
theorem d_N_enqueue_19 : decode c_N_enqueue 19 = .ok (.aload_n 0, 1) := by decide +kernel
theorem d_N_enqueue_20 : decode c_N_enqueue 20 = .ok (.dup, 1) := by decide +kernel
theorem d_N_enqueue_21 : decode c_N_enqueue 21 = .ok (.getfield 41, 3) := by decide +kernel
theorem d_N_enqueue_24 : decode c_N_enqueue 24 = .ok (.iconst 1, 1) := by decide +kernel
theorem d_N_enqueue_25 : decode c_N_enqueue 25 = .ok (.iadd, 1) := by decide +kernel
theorem d_N_enqueue_26 : decode c_N_enqueue 26 = .ok (.putfield 41, 3) := by decide +kernel
theorem d_N_enqueue_29 : decode c_N_enqueue 29 = .ok (.return_, 1) := by decide +kernel
theorem d_N_dequeue_0 : decode c_N_dequeue 0 = .ok (.aload_n 0, 1) := by decide +kernel
theorem d_N_dequeue_1 : decode c_N_dequeue 1 = .ok (.getfield 15, 3) := by decide +kernel
theorem d_N_dequeue_4 : decode c_N_dequeue 4 = .ok (.iconst 0, 1) := by decide +kernel
theorem d_N_dequeue_5 : decode c_N_dequeue 5 = .ok (.iaload, 1) := by decide +kernel
theorem d_N_dequeue_6 : decode c_N_dequeue 6 = .ok (.istore_n 1, 1) := by decide +kernel
theorem d_N_dequeue_7 : decode c_N_dequeue 7 = .ok (.iconst 1, 1) := by decide +kernel
theorem d_N_dequeue_8 : decode c_N_dequeue 8 = .ok (.istore_n 2, 1) := by decide +kernel
theorem d_N_dequeue_9 : decode c_N_dequeue 9 = .ok (.iload_n 2, 1) := by decide +kernel
theorem d_N_dequeue_10 : decode c_N_dequeue 10 = .ok (.aload_n 0, 1) := by decide +kernel
theorem d_N_dequeue_11 : decode c_N_dequeue 11 = .ok (.getfield 41, 3) := by decide +kernel
theorem d_N_dequeue_14 : decode c_N_dequeue 14 = .ok (.if_icmp .ge 23, 3) := by decide +kernel
theorem d_N_dequeue_17 : decode c_N_dequeue 17 = .ok (.aload_n 0, 1) := by decide +kernel
theorem d_N_dequeue_18 : decode c_N_dequeue 18 = .ok (.getfield 15, 3) := by decide +kernel
theorem d_N_dequeue_21 : decode c_N_dequeue 21 = .ok (.iload_n 2, 1) := by decide +kernel
theorem d_N_dequeue_22 : decode c_N_dequeue 22 = .ok (.iconst 1, 1) := by decide +kernel
theorem d_N_dequeue_23 : decode c_N_dequeue 23 = .ok (.isub, 1) := by decide +kernel
theorem d_N_dequeue_24 : decode c_N_dequeue 24 = .ok (.aload_n 0, 1) := by decide +kernel
theorem d_N_dequeue_25 : decode c_N_dequeue 25 = .ok (.getfield 15, 3) := by decide +kernel
theorem d_N_dequeue_28 : decode c_N_dequeue 28 = .ok (.iload_n 2, 1) := by decide +kernel
theorem d_N_dequeue_29 : decode c_N_dequeue 29 = .ok (.iaload, 1) := by decide +kernel
theorem d_N_dequeue_30 : decode c_N_dequeue 30 = .ok (.iastore, 1) := by decide +kernel
theorem d_N_dequeue_31 : decode c_N_dequeue 31 = .ok (.iinc 2 1, 3) := by decide +kernel
theorem d_N_dequeue_34 : decode c_N_dequeue 34 = .ok (.goto (-25), 3) := by decide +kernel
theorem d_N_dequeue_37 : decode c_N_dequeue 37 = .ok (.aload_n 0, 1) := by decide +kernel
theorem d_N_dequeue_38 : decode c_N_dequeue 38 = .ok (.iconst 0, 1) := by decide +kernel
theorem d_N_dequeue_39 : decode c_N_dequeue 39 = .ok (.aload_n 0, 1) := by decide +kernel
theorem d_N_dequeue_40 : decode c_N_dequeue 40 = .ok (.getfield 41, 3) := by decide +kernel
theorem d_N_dequeue_43 : decode c_N_dequeue 43 = .ok (.iconst 1, 1) := by decide +kernel
theorem d_N_dequeue_44 : decode c_N_dequeue 44 = .ok (.isub, 1) := by decide +kernel
theorem d_N_dequeue_45 : decode c_N_dequeue 45 = .ok (.invokestatic 44, 3) := by decide +kernel
theorem d_N_dequeue_48 : decode c_N_dequeue 48 = .ok (.putfield 41, 3) := by decide +kernel
theorem d_N_dequeue_51 : decode c_N_dequeue 51 = .ok (.iload_n 1, 1) := by decide +kernel
theorem d_N_dequeue_52 : decode c_N_dequeue 52 = .ok (.ireturn, 1) := by decide +kernel
theorem d_N_append_0 : decode c_N_append 0 = .ok (.aload_n 0, 1) := by decide +kernel
theorem d_N_append_1 : decode c_N_append 1 = .ok (.getfield 50, 3) := by decide +kernel
theorem d_N_append_4 : decode c_N_append 4 = .ok (.bipush 48, 2) := by decide +kernel
theorem d_N_append_6 : decode c_N_append 6 = .ok (.if_icmp .ge 23, 3) := by decide +kernel
theorem d_N_append_9 : decode c_N_append 9 = .ok (.aload_n 0, 1) := by decide +kernel
theorem d_N_append_10 : decode c_N_append 10 = .ok (.getfield 19, 3) := by decide +kernel
theorem d_N_append_13 : decode c_N_append 13 = .ok (.aload_n 0, 1) := by decide +kernel
theorem d_N_append_14 : decode c_N_append 14 = .ok (.getfield 50, 3) := by decide +kernel
theorem d_N_append_17 : decode c_N_append 17 = .ok (.iload_n 1, 1) := by decide +kernel
theorem d_N_append_18 : decode c_N_append 18 = .ok (.iastore, 1) := by decide +kernel
theorem d_N_append_19 : decode c_N_append 19 = .ok (.aload_n 0, 1) := by decide +kernel
theorem d_N_append_20 : decode c_N_append 20 = .ok (.dup, 1) := by decide +kernel
theorem d_N_append_21 : decode c_N_append 21 = .ok (.getfield 50, 3) := by decide +kernel
theorem d_N_append_24 : decode c_N_append 24 = .ok (.iconst 1, 1) := by decide +kernel
theorem d_N_append_25 : decode c_N_append 25 = .ok (.iadd, 1) := by decide +kernel
theorem d_N_append_26 : decode c_N_append 26 = .ok (.putfield 50, 3) := by decide +kernel
theorem d_N_append_29 : decode c_N_append 29 = .ok (.return_, 1) := by decide +kernel
theorem d_N_enter_0 : decode c_N_enter 0 = .ok (.aload_n 0, 1) := by decide +kernel
theorem d_N_enter_1 : decode c_N_enter 1 = .ok (.invokevirtual 53, 3) := by decide +kernel
theorem d_N_enter_4 : decode c_N_enter 4 = .ok (.aload_n 0, 1) := by decide +kernel
theorem d_N_enter_5 : decode c_N_enter 5 = .ok (.aload_n 1, 1) := by decide +kernel
theorem d_N_enter_6 : decode c_N_enter 6 = .ok (.putfield 22, 3) := by decide +kernel
theorem d_N_enter_9 : decode c_N_enter 9 = .ok (.return_, 1) := by decide +kernel
theorem d_N_leaveRing_0 : decode c_N_leaveRing 0 = .ok (.aload_n 0, 1) := by decide +kernel
theorem d_N_leaveRing_1 : decode c_N_leaveRing 1 = .ok (.getfield 22, 3) := by decide +kernel
theorem d_N_leaveRing_4 : decode c_N_leaveRing 4 = .ok (.ifnull 25, 3) := by decide +kernel
theorem d_N_leaveRing_7 : decode c_N_leaveRing 7 = .ok (.aload_n 0, 1) := by decide +kernel
theorem d_N_leaveRing_8 : decode c_N_leaveRing 8 = .ok (.getfield 22, 3) := by decide +kernel
theorem d_N_leaveRing_11 : decode c_N_leaveRing 11 = .ok (.getfield 56, 3) := by decide +kernel
theorem d_N_leaveRing_14 : decode c_N_leaveRing 14 = .ok (.aload_n 0, 1) := by decide +kernel
theorem d_N_leaveRing_15 : decode c_N_leaveRing 15 = .ok (.getfield 9, 3) := by decide +kernel
theorem d_N_leaveRing_18 : decode c_N_leaveRing 18 = .ok (.if_icmp .ne 11, 3) := by decide +kernel
theorem d_N_leaveRing_21 : decode c_N_leaveRing 21 = .ok (.aload_n 0, 1) := by decide +kernel
theorem d_N_leaveRing_22 : decode c_N_leaveRing 22 = .ok (.getfield 22, 3) := by decide +kernel
theorem d_N_leaveRing_25 : decode c_N_leaveRing 25 = .ok (.iconst (-1), 1) := by decide +kernel
theorem d_N_leaveRing_26 : decode c_N_leaveRing 26 = .ok (.putfield 56, 3) := by decide +kernel
theorem d_N_leaveRing_29 : decode c_N_leaveRing 29 = .ok (.aload_n 0, 1) := by decide +kernel
theorem d_N_leaveRing_30 : decode c_N_leaveRing 30 = .ok (.aconst_null, 1) := by decide +kernel
theorem d_N_leaveRing_31 : decode c_N_leaveRing 31 = .ok (.putfield 22, 3) := by decide +kernel
theorem d_N_leaveRing_34 : decode c_N_leaveRing 34 = .ok (.aload_n 0, 1) := by decide +kernel
theorem d_N_leaveRing_35 : decode c_N_leaveRing 35 = .ok (.lconst 0, 1) := by decide +kernel
theorem d_N_leaveRing_36 : decode c_N_leaveRing 36 = .ok (.putfield 26, 3) := by decide +kernel
theorem d_N_leaveRing_39 : decode c_N_leaveRing 39 = .ok (.aload_n 0, 1) := by decide +kernel
theorem d_N_leaveRing_40 : decode c_N_leaveRing 40 = .ok (.iconst 0, 1) := by decide +kernel
theorem d_N_leaveRing_41 : decode c_N_leaveRing 41 = .ok (.putfield 61, 3) := by decide +kernel
theorem d_N_leaveRing_44 : decode c_N_leaveRing 44 = .ok (.aload_n 0, 1) := by decide +kernel
theorem d_N_leaveRing_45 : decode c_N_leaveRing 45 = .ok (.iconst 0, 1) := by decide +kernel
theorem d_N_leaveRing_46 : decode c_N_leaveRing 46 = .ok (.putfield 64, 3) := by decide +kernel
theorem d_N_leaveRing_49 : decode c_N_leaveRing 49 = .ok (.aload_n 0, 1) := by decide +kernel
theorem d_N_leaveRing_50 : decode c_N_leaveRing 50 = .ok (.iconst 0, 1) := by decide +kernel
theorem d_N_leaveRing_51 : decode c_N_leaveRing 51 = .ok (.putfield 67, 3) := by decide +kernel
theorem d_N_leaveRing_54 : decode c_N_leaveRing 54 = .ok (.return_, 1) := by decide +kernel
theorem d_N_goDown_0 : decode c_N_goDown 0 = .ok (.aload_n 0, 1) := by decide +kernel
theorem d_N_goDown_1 : decode c_N_goDown 1 = .ok (.invokevirtual 53, 3) := by decide +kernel
theorem d_N_goDown_4 : decode c_N_goDown 4 = .ok (.aload_n 0, 1) := by decide +kernel
theorem d_N_goDown_5 : decode c_N_goDown 5 = .ok (.iconst 0, 1) := by decide +kernel
theorem d_N_goDown_6 : decode c_N_goDown 6 = .ok (.putfield 41, 3) := by decide +kernel
theorem d_N_goDown_9 : decode c_N_goDown 9 = .ok (.aload_n 0, 1) := by decide +kernel
theorem d_N_goDown_10 : decode c_N_goDown 10 = .ok (.iconst 0, 1) := by decide +kernel
theorem d_N_goDown_11 : decode c_N_goDown 11 = .ok (.putfield 30, 3) := by decide +kernel
theorem d_N_goDown_14 : decode c_N_goDown 14 = .ok (.return_, 1) := by decide +kernel
theorem d_R_init_0 : decode c_R_init 0 = .ok (.aload_n 0, 1) := by decide +kernel
theorem d_R_init_1 : decode c_R_init 1 = .ok (.invokespecial 3, 3) := by decide +kernel
theorem d_R_init_4 : decode c_R_init 4 = .ok (.aload_n 0, 1) := by decide +kernel
theorem d_R_init_5 : decode c_R_init 5 = .ok (.bipush 49, 2) := by decide +kernel
theorem d_R_init_7 : decode c_R_init 7 = .ok (.newarray .int, 2) := by decide +kernel
theorem d_R_init_9 : decode c_R_init 9 = .ok (.putfield 9, 3) := by decide +kernel
theorem d_R_init_12 : decode c_R_init 12 = .ok (.aload_n 0, 1) := by decide +kernel
theorem d_R_init_13 : decode c_R_init 13 = .ok (.iconst 5, 1) := by decide +kernel
theorem d_R_init_14 : decode c_R_init 14 = .ok (.newarray .int, 2) := by decide +kernel
theorem d_R_init_16 : decode c_R_init 16 = .ok (.putfield 15, 3) := by decide +kernel
theorem d_R_init_19 : decode c_R_init 19 = .ok (.aload_n 0, 1) := by decide +kernel
theorem d_R_init_20 : decode c_R_init 20 = .ok (.iconst (-1), 1) := by decide +kernel
theorem d_R_init_21 : decode c_R_init 21 = .ok (.putfield 18, 3) := by decide +kernel
theorem d_R_init_24 : decode c_R_init 24 = .ok (.return_, 1) := by decide +kernel
theorem d_R_form_0 : decode c_R_form 0 = .ok (.aload_n 0, 1) := by decide +kernel
theorem d_R_form_1 : decode c_R_form 1 = .ok (.iload_n 1, 1) := by decide +kernel
theorem d_R_form_2 : decode c_R_form 2 = .ok (.putfield 22, 3) := by decide +kernel
theorem d_R_form_5 : decode c_R_form 5 = .ok (.aload_n 0, 1) := by decide +kernel
theorem d_R_form_6 : decode c_R_form 6 = .ok (.iload_n 2, 1) := by decide +kernel
theorem d_R_form_7 : decode c_R_form 7 = .ok (.putfield 25, 3) := by decide +kernel
theorem d_R_form_10 : decode c_R_form 10 = .ok (.aload_n 0, 1) := by decide +kernel
theorem d_R_form_11 : decode c_R_form 11 = .ok (.aload_n 0, 1) := by decide +kernel
theorem d_R_form_12 : decode c_R_form 12 = .ok (.iconst 4, 1) := by decide +kernel
theorem d_R_form_13 : decode c_R_form 13 = .ok (.invokevirtual 28, 3) := by decide +kernel
theorem d_R_form_16 : decode c_R_form 16 = .ok (.putfield 18, 3) := by decide +kernel
theorem d_R_form_19 : decode c_R_form 19 = .ok (.aload_n 0, 1) := by decide +kernel
theorem d_R_form_20 : decode c_R_form 20 = .ok (.iconst 0, 1) := by decide +kernel
theorem d_R_form_21 : decode c_R_form 21 = .ok (.putfield 32, 3) := by decide +kernel
theorem d_R_form_24 : decode c_R_form 24 = .ok (.aload_n 0, 1) := by decide +kernel
theorem d_R_form_25 : decode c_R_form 25 = .ok (.lconst 0, 1) := by decide +kernel
theorem d_R_form_26 : decode c_R_form 26 = .ok (.putfield 35, 3) := by decide +kernel
theorem d_R_form_29 : decode c_R_form 29 = .ok (.iconst 0, 1) := by decide +kernel
theorem d_R_form_30 : decode c_R_form 30 = .ok (.istore_n 3, 1) := by decide +kernel
theorem d_R_form_31 : decode c_R_form 31 = .ok (.iload_n 3, 1) := by decide +kernel
theorem d_R_form_32 : decode c_R_form 32 = .ok (.iconst 5, 1) := by decide +kernel
theorem d_R_form_33 : decode c_R_form 33 = .ok (.if_icmp .ge 16, 3) := by decide +kernel
theorem d_R_form_36 : decode c_R_form 36 = .ok (.aload_n 0, 1) := by decide +kernel
theorem d_R_form_37 : decode c_R_form 37 = .ok (.getfield 15, 3) := by decide +kernel
theorem d_R_form_40 : decode c_R_form 40 = .ok (.iload_n 3, 1) := by decide +kernel
theorem d_R_form_41 : decode c_R_form 41 = .ok (.iconst 0, 1) := by decide +kernel
theorem d_R_form_42 : decode c_R_form 42 = .ok (.iastore, 1) := by decide +kernel
theorem d_R_form_43 : decode c_R_form 43 = .ok (.iinc 3 1, 3) := by decide +kernel
theorem d_R_form_46 : decode c_R_form 46 = .ok (.goto (-15), 3) := by decide +kernel
theorem d_R_form_49 : decode c_R_form 49 = .ok (.return_, 1) := by decide +kernel
theorem d_R_isTokenLost_0 : decode c_R_isTokenLost 0 = .ok (.aload_n 0, 1) := by decide +kernel
theorem d_R_isTokenLost_1 : decode c_R_isTokenLost 1 = .ok (.getfield 18, 3) := by decide +kernel
theorem d_R_isTokenLost_4 : decode c_R_isTokenLost 4 = .ok (.iconst (-1), 1) := by decide +kernel
theorem d_R_isTokenLost_5 : decode c_R_isTokenLost 5 = .ok (.if_icmp .ne 7, 3) := by decide +kernel
theorem d_R_isTokenLost_8 : decode c_R_isTokenLost 8 = .ok (.iconst 1, 1) := by decide +kernel
theorem d_R_isTokenLost_9 : decode c_R_isTokenLost 9 = .ok (.goto 4, 3) := by decide +kernel
theorem d_R_isTokenLost_12 : decode c_R_isTokenLost 12 = .ok (.iconst 0, 1) := by decide +kernel
theorem d_R_isTokenLost_13 : decode c_R_isTokenLost 13 = .ok (.ireturn, 1) := by decide +kernel
theorem d_R_isRequested_0 : decode c_R_isRequested 0 = .ok (.aload_n 0, 1) := by decide +kernel
theorem d_R_isRequested_1 : decode c_R_isRequested 1 = .ok (.getfield 35, 3) := by decide +kernel
theorem d_R_isRequested_4 : decode c_R_isRequested 4 = .ok (.lconst 1, 1) := by decide +kernel
theorem d_R_isRequested_5 : decode c_R_isRequested 5 = .ok (.iload_n 1, 1) := by decide +kernel
theorem d_R_isRequested_6 : decode c_R_isRequested 6 = .ok (.lshl, 1) := by decide +kernel
theorem d_R_isRequested_7 : decode c_R_isRequested 7 = .ok (.land, 1) := by decide +kernel
theorem d_R_isRequested_8 : decode c_R_isRequested 8 = .ok (.lconst 0, 1) := by decide +kernel
theorem d_R_isRequested_9 : decode c_R_isRequested 9 = .ok (.lcmp, 1) := by decide +kernel
theorem d_R_isRequested_10 : decode c_R_isRequested 10 = .ok (.ifCond .eq 7, 3) := by decide +kernel
theorem d_R_isRequested_13 : decode c_R_isRequested 13 = .ok (.iconst 1, 1) := by decide +kernel
theorem d_R_isRequested_14 : decode c_R_isRequested 14 = .ok (.goto 4, 3) := by decide +kernel
theorem d_R_isRequested_17 : decode c_R_isRequested 17 = .ok (.iconst 0, 1) := by decide +kernel
theorem d_R_isRequested_18 : decode c_R_isRequested 18 = .ok (.ireturn, 1) := by decide +kernel
theorem d_R_takeOffRequest_0 : decode c_R_takeOffRequest 0 = .ok (.aload_n 0, 1) := by decide +kernel
theorem d_R_takeOffRequest_1 : decode c_R_takeOffRequest 1 = .ok (.dup, 1) := by decide +kernel
theorem d_R_takeOffRequest_2 : decode c_R_takeOffRequest 2 = .ok (.getfield 35, 3) := by decide +kernel
theorem d_R_takeOffRequest_5 : decode c_R_takeOffRequest 5 = .ok (.lconst 1, 1) := by decide +kernel
theorem d_R_takeOffRequest_6 : decode c_R_takeOffRequest 6 = .ok (.iload_n 1, 1) := by decide +kernel
theorem d_R_takeOffRequest_7 : decode c_R_takeOffRequest 7 = .ok (.lshl, 1) := by decide +kernel
theorem d_R_takeOffRequest_8 : decode c_R_takeOffRequest 8 = .ok (.ldc2_w 39, 3) := by decide +kernel
theorem d_R_takeOffRequest_11 : decode c_R_takeOffRequest 11 = .ok (.lxor, 1) := by decide +kernel
theorem d_R_takeOffRequest_12 : decode c_R_takeOffRequest 12 = .ok (.land, 1) := by decide +kernel
theorem d_R_takeOffRequest_13 : decode c_R_takeOffRequest 13 = .ok (.putfield 35, 3) := by decide +kernel
theorem d_R_takeOffRequest_16 : decode c_R_takeOffRequest 16 = .ok (.return_, 1) := by decide +kernel
theorem d_R_markAndRequest_0 : decode c_R_markAndRequest 0 = .ok (.aload_n 0, 1) := by decide +kernel
theorem d_R_markAndRequest_1 : decode c_R_markAndRequest 1 = .ok (.getfield 15, 3) := by decide +kernel
theorem d_R_markAndRequest_4 : decode c_R_markAndRequest 4 = .ok (.aload_n 1, 1) := by decide +kernel
theorem d_R_markAndRequest_5 : decode c_R_markAndRequest 5 = .ok (.getfield 41, 3) := by decide +kernel
theorem d_R_markAndRequest_8 : decode c_R_markAndRequest 8 = .ok (.aload_n 1, 1) := by decide +kernel
theorem d_R_markAndRequest_9 : decode c_R_markAndRequest 9 = .ok (.invokevirtual 44, 3) := by decide +kernel
theorem d_R_markAndRequest_12 : decode c_R_markAndRequest 12 = .ok (.iastore, 1) := by decide +kernel
theorem d_R_markAndRequest_13 : decode c_R_markAndRequest 13 = .ok (.iconst 1, 1) := by decide +kernel
theorem d_R_markAndRequest_14 : decode c_R_markAndRequest 14 = .ok (.istore_n 2, 1) := by decide +kernel
theorem d_R_markAndRequest_15 : decode c_R_markAndRequest 15 = .ok (.iload_n 2, 1) := by decide +kernel
theorem d_R_markAndRequest_16 : decode c_R_markAndRequest 16 = .ok (.aload_n 0, 1) := by decide +kernel
theorem d_R_markAndRequest_17 : decode c_R_markAndRequest 17 = .ok (.getfield 32, 3) := by decide +kernel
theorem d_R_markAndRequest_20 : decode c_R_markAndRequest 20 = .ok (.if_icmp .gt 29, 3) := by decide +kernel
theorem d_R_markAndRequest_23 : decode c_R_markAndRequest 23 = .ok (.aload_n 1, 1) := by decide +kernel
theorem d_R_markAndRequest_24 : decode c_R_markAndRequest 24 = .ok (.iload_n 2, 1) := by decide +kernel
theorem d_R_markAndRequest_25 : decode c_R_markAndRequest 25 = .ok (.invokevirtual 48, 3) := by decide +kernel
theorem d_R_markAndRequest_28 : decode c_R_markAndRequest 28 = .ok (.ifCond .ne 15, 3) := by decide +kernel
theorem d_R_markAndRequest_31 : decode c_R_markAndRequest 31 = .ok (.aload_n 0, 1) := by decide +kernel
theorem d_R_markAndRequest_32 : decode c_R_markAndRequest 32 = .ok (.dup, 1) := by decide +kernel
theorem d_R_markAndRequest_33 : decode c_R_markAndRequest 33 = .ok (.getfield 35, 3) := by decide +kernel
theorem d_R_markAndRequest_36 : decode c_R_markAndRequest 36 = .ok (.lconst 1, 1) := by decide +kernel
theorem d_R_markAndRequest_37 : decode c_R_markAndRequest 37 = .ok (.iload_n 2, 1) := by decide +kernel
theorem d_R_markAndRequest_38 : decode c_R_markAndRequest 38 = .ok (.lshl, 1) := by decide +kernel
theorem d_R_markAndRequest_39 : decode c_R_markAndRequest 39 = .ok (.lor, 1) := by decide +kernel
theorem d_R_markAndRequest_40 : decode c_R_markAndRequest 40 = .ok (.putfield 35, 3) := by decide +kernel
theorem d_R_markAndRequest_43 : decode c_R_markAndRequest 43 = .ok (.iinc 2 1, 3) := by decide +kernel
theorem d_R_markAndRequest_46 : decode c_R_markAndRequest 46 = .ok (.goto (-31), 3) := by decide +kernel
theorem d_R_markAndRequest_49 : decode c_R_markAndRequest 49 = .ok (.return_, 1) := by decide +kernel
theorem d_R_leastMark_0 : decode c_R_leastMark 0 = .ok (.bipush 48, 2) := by decide +kernel
theorem d_R_leastMark_2 : decode c_R_leastMark 2 = .ok (.istore_n 1, 1) := by decide +kernel
theorem d_R_leastMark_3 : decode c_R_leastMark 3 = .ok (.iconst 0, 1) := by decide +kernel
theorem d_R_leastMark_4 : decode c_R_leastMark 4 = .ok (.istore_n 2, 1) := by decide +kernel
theorem d_R_leastMark_5 : decode c_R_leastMark 5 = .ok (.iload_n 2, 1) := by decide +kernel
theorem d_R_leastMark_6 : decode c_R_leastMark 6 = .ok (.iconst 5, 1) := by decide +kernel
theorem d_R_leastMark_7 : decode c_R_leastMark 7 = .ok (.if_icmp .ge 31, 3) := by decide +kernel
theorem d_R_leastMark_10 : decode c_R_leastMark 10 = .ok (.aload_n 0, 1) := by decide +kernel
theorem d_R_leastMark_11 : decode c_R_leastMark 11 = .ok (.getfield 25, 3) := by decide +kernel
theorem d_R_leastMark_14 : decode c_R_leastMark 14 = .ok (.iload_n 2, 1) := by decide +kernel
theorem d_R_leastMark_15 : decode c_R_leastMark 15 = .ok (.invokestatic 52, 3) := by decide +kernel
theorem d_R_leastMark_18 : decode c_R_leastMark 18 = .ok (.ifCond .eq 14, 3) := by decide +kernel
theorem d_R_leastMark_21 : decode c_R_leastMark 21 = .ok (.iload_n 1, 1) := by decide +kernel
theorem d_R_leastMark_22 : decode c_R_leastMark 22 = .ok (.aload_n 0, 1) := by decide +kernel
theorem d_R_leastMark_23 : decode c_R_leastMark 23 = .ok (.getfield 15, 3) := by decide +kernel
theorem d_R_leastMark_26 : decode c_R_leastMark 26 = .ok (.iload_n 2, 1) := by decide +kernel
theorem d_R_leastMark_27 : decode c_R_leastMark 27 = .ok (.iaload, 1) := by decide +kernel
theorem d_R_leastMark_28 : decode c_R_leastMark 28 = .ok (.invokestatic 56, 3) := by decide +kernel
theorem d_R_leastMark_31 : decode c_R_leastMark 31 = .ok (.istore_n 1, 1) := by decide +kernel
theorem d_R_leastMark_32 : decode c_R_leastMark 32 = .ok (.iinc 2 1, 3) := by decide +kernel
theorem d_R_leastMark_35 : decode c_R_leastMark 35 = .ok (.goto (-30), 3) := by decide +kernel
theorem d_R_leastMark_38 : decode c_R_leastMark 38 = .ok (.iload_n 1, 1) := by decide +kernel
theorem d_R_leastMark_39 : decode c_R_leastMark 39 = .ok (.ireturn, 1) := by decide +kernel
theorem d_R_memberAfter_0 : decode c_R_memberAfter 0 = .ok (.iconst 1, 1) := by decide +kernel
theorem d_R_memberAfter_1 : decode c_R_memberAfter 1 = .ok (.istore_n 2, 1) := by decide +kernel
theorem d_R_memberAfter_2 : decode c_R_memberAfter 2 = .ok (.iload_n 2, 1) := by decide +kernel
theorem d_R_memberAfter_3 : decode c_R_memberAfter 3 = .ok (.iconst 5, 1) := by decide +kernel
theorem d_R_memberAfter_4 : decode c_R_memberAfter 4 = .ok (.if_icmp .ge 28, 3) := by decide +kernel
theorem d_R_memberAfter_7 : decode c_R_memberAfter 7 = .ok (.iload_n 1, 1) := by decide +kernel
theorem d_R_memberAfter_8 : decode c_R_memberAfter 8 = .ok (.iload_n 2, 1) := by decide +kernel
theorem d_R_memberAfter_9 : decode c_R_memberAfter 9 = .ok (.iadd, 1) := by decide +kernel
theorem d_R_memberAfter_10 : decode c_R_memberAfter 10 = .ok (.iconst 5, 1) := by decide +kernel
theorem d_R_memberAfter_11 : decode c_R_memberAfter 11 = .ok (.irem, 1) := by decide +kernel
theorem d_R_memberAfter_12 : decode c_R_memberAfter 12 = .ok (.istore_n 3, 1) := by decide +kernel
theorem d_R_memberAfter_13 : decode c_R_memberAfter 13 = .ok (.aload_n 0, 1) := by decide +kernel
theorem d_R_memberAfter_14 : decode c_R_memberAfter 14 = .ok (.getfield 25, 3) := by decide +kernel
theorem d_R_memberAfter_17 : decode c_R_memberAfter 17 = .ok (.iload_n 3, 1) := by decide +kernel
theorem d_R_memberAfter_18 : decode c_R_memberAfter 18 = .ok (.invokestatic 52, 3) := by decide +kernel
theorem d_R_memberAfter_21 : decode c_R_memberAfter 21 = .ok (.ifCond .eq 5, 3) := by decide +kernel
theorem d_R_memberAfter_24 : decode c_R_memberAfter 24 = .ok (.iload_n 3, 1) := by decide +kernel
theorem d_R_memberAfter_25 : decode c_R_memberAfter 25 = .ok (.ireturn, 1) := by decide +kernel
theorem d_R_memberAfter_26 : decode c_R_memberAfter 26 = .ok (.iinc 2 1, 3) := by decide +kernel
theorem d_R_memberAfter_29 : decode c_R_memberAfter 29 = .ok (.goto (-27), 3) := by decide +kernel
theorem d_R_memberAfter_32 : decode c_R_memberAfter 32 = .ok (.iload_n 1, 1) := by decide +kernel
theorem d_R_memberAfter_33 : decode c_R_memberAfter 33 = .ok (.ireturn, 1) := by decide +kernel
theorem d_L_law_0 : decode c_L_law 0 = .ok (.new 7, 3) := by decide +kernel
theorem d_L_law_3 : decode c_L_law 3 = .ok (.dup, 1) := by decide +kernel
theorem d_L_law_4 : decode c_L_law 4 = .ok (.invokespecial 9, 3) := by decide +kernel
theorem d_L_law_7 : decode c_L_law 7 = .ok (.astore_n 1, 1) := by decide +kernel
theorem d_L_law_8 : decode c_L_law 8 = .ok (.new 10, 3) := by decide +kernel
theorem d_L_law_11 : decode c_L_law 11 = .ok (.dup, 1) := by decide +kernel
theorem d_L_law_12 : decode c_L_law 12 = .ok (.invokespecial 12, 3) := by decide +kernel
theorem d_L_law_15 : decode c_L_law 15 = .ok (.astore_n 2, 1) := by decide +kernel
theorem d_L_law_16 : decode c_L_law 16 = .ok (.iconst 0, 1) := by decide +kernel
theorem d_L_law_17 : decode c_L_law 17 = .ok (.istore_n 3, 1) := by decide +kernel
theorem d_L_law_18 : decode c_L_law 18 = .ok (.iload_n 3, 1) := by decide +kernel
theorem d_L_law_19 : decode c_L_law 19 = .ok (.aload_n 0, 1) := by decide +kernel
theorem d_L_law_20 : decode c_L_law 20 = .ok (.arraylength, 1) := by decide +kernel
theorem d_L_law_21 : decode c_L_law 21 = .ok (.iconst 3, 1) := by decide +kernel
theorem d_L_law_22 : decode c_L_law 22 = .ok (.isub, 1) := by decide +kernel
theorem d_L_law_23 : decode c_L_law 23 = .ok (.if_icmp .gt 600, 3) := by decide +kernel
theorem d_L_law_26 : decode c_L_law 26 = .ok (.aload_n 0, 1) := by decide +kernel
theorem d_L_law_27 : decode c_L_law 27 = .ok (.iload_n 3, 1) := by decide +kernel
theorem d_L_law_28 : decode c_L_law 28 = .ok (.iaload, 1) := by decide +kernel
theorem d_L_law_29 : decode c_L_law 29 = .ok (.bipush 31, 2) := by decide +kernel
theorem d_L_law_31 : decode c_L_law 31 = .ok (.iand, 1) := by decide +kernel
theorem d_L_law_32 : decode c_L_law 32 = .ok (.tableswitch 585 0 18 #[92, 141, 164, 187, 210, 233, 266, 299, 322, 345, 368, 391, 414, 437, 460, 483, 506, 529, 562], 92) := by decide +kernel
theorem d_L_law_124 : decode c_L_law 124 = .ok (.aload_n 1, 1) := by decide +kernel
theorem d_L_law_125 : decode c_L_law 125 = .ok (.aload_n 0, 1) := by decide +kernel
theorem d_L_law_126 : decode c_L_law 126 = .ok (.iload_n 3, 1) := by decide +kernel
theorem d_L_law_127 : decode c_L_law 127 = .ok (.iconst 1, 1) := by decide +kernel
theorem d_L_law_128 : decode c_L_law 128 = .ok (.iadd, 1) := by decide +kernel
theorem d_L_law_129 : decode c_L_law 129 = .ok (.iaload, 1) := by decide +kernel
theorem d_L_law_130 : decode c_L_law 130 = .ok (.aload_n 0, 1) := by decide +kernel
theorem d_L_law_131 : decode c_L_law 131 = .ok (.iload_n 3, 1) := by decide +kernel
theorem d_L_law_132 : decode c_L_law 132 = .ok (.iconst 2, 1) := by decide +kernel
theorem d_L_law_133 : decode c_L_law 133 = .ok (.iadd, 1) := by decide +kernel
theorem d_L_law_134 : decode c_L_law 134 = .ok (.iaload, 1) := by decide +kernel
theorem d_L_law_135 : decode c_L_law 135 = .ok (.ifCond .eq 7, 3) := by decide +kernel
theorem d_L_law_138 : decode c_L_law 138 = .ok (.iconst 1, 1) := by decide +kernel
theorem d_L_law_139 : decode c_L_law 139 = .ok (.goto 4, 3) := by decide +kernel
theorem d_L_law_142 : decode c_L_law 142 = .ok (.iconst 0, 1) := by decide +kernel
theorem d_L_law_143 : decode c_L_law 143 = .ok (.invokevirtual 13, 3) := by decide +kernel
theorem d_L_law_146 : decode c_L_law 146 = .ok (.aload_n 2, 1) := by decide +kernel
theorem d_L_law_147 : decode c_L_law 147 = .ok (.aload_n 0, 1) := by decide +kernel
theorem d_L_law_148 : decode c_L_law 148 = .ok (.iload_n 3, 1) := by decide +kernel
theorem d_L_law_149 : decode c_L_law 149 = .ok (.iconst 1, 1) := by decide +kernel
theorem d_L_law_150 : decode c_L_law 150 = .ok (.iadd, 1) := by decide +kernel
theorem d_L_law_151 : decode c_L_law 151 = .ok (.iaload, 1) := by decide +kernel
theorem d_L_law_152 : decode c_L_law 152 = .ok (.aload_n 0, 1) := by decide +kernel
theorem d_L_law_153 : decode c_L_law 153 = .ok (.iload_n 3, 1) := by decide +kernel
theorem d_L_law_154 : decode c_L_law 154 = .ok (.iconst 2, 1) := by decide +kernel
theorem d_L_law_155 : decode c_L_law 155 = .ok (.iadd, 1) := by decide +kernel
theorem d_L_law_156 : decode c_L_law 156 = .ok (.iaload, 1) := by decide +kernel
theorem d_L_law_157 : decode c_L_law 157 = .ok (.ifCond .eq 7, 3) := by decide +kernel
theorem d_L_law_160 : decode c_L_law 160 = .ok (.iconst 1, 1) := by decide +kernel
theorem d_L_law_161 : decode c_L_law 161 = .ok (.goto 4, 3) := by decide +kernel
theorem d_L_law_164 : decode c_L_law 164 = .ok (.iconst 0, 1) := by decide +kernel
theorem d_L_law_165 : decode c_L_law 165 = .ok (.invokevirtual 17, 3) := by decide +kernel
theorem d_L_law_168 : decode c_L_law 168 = .ok (.if_icmp .eq 449, 3) := by decide +kernel
theorem d_L_law_171 : decode c_L_law 171 = .ok (.iconst 0, 1) := by decide +kernel
theorem d_L_law_172 : decode c_L_law 172 = .ok (.ireturn, 1) := by decide +kernel
theorem d_L_law_173 : decode c_L_law 173 = .ok (.aload_n 1, 1) := by decide +kernel
theorem d_L_law_174 : decode c_L_law 174 = .ok (.aload_n 0, 1) := by decide +kernel
theorem d_L_law_175 : decode c_L_law 175 = .ok (.iload_n 3, 1) := by decide +kernel
theorem d_L_law_176 : decode c_L_law 176 = .ok (.iconst 1, 1) := by decide +kernel
theorem d_L_law_177 : decode c_L_law 177 = .ok (.iadd, 1) := by decide +kernel
theorem d_L_law_178 : decode c_L_law 178 = .ok (.iaload, 1) := by decide +kernel
theorem d_L_law_179 : decode c_L_law 179 = .ok (.invokevirtual 18, 3) := by decide +kernel
theorem d_L_law_182 : decode c_L_law 182 = .ok (.aload_n 2, 1) := by decide +kernel
theorem d_L_law_183 : decode c_L_law 183 = .ok (.aload_n 0, 1) := by decide +kernel
theorem d_L_law_184 : decode c_L_law 184 = .ok (.iload_n 3, 1) := by decide +kernel
theorem d_L_law_185 : decode c_L_law 185 = .ok (.iconst 1, 1) := by decide +kernel
theorem d_L_law_186 : decode c_L_law 186 = .ok (.iadd, 1) := by decide +kernel
theorem d_L_law_187 : decode c_L_law 187 = .ok (.iaload, 1) := by decide +kernel
theorem d_L_law_188 : decode c_L_law 188 = .ok (.invokevirtual 22, 3) := by decide +kernel
theorem d_L_law_191 : decode c_L_law 191 = .ok (.if_icmp .eq 426, 3) := by decide +kernel
theorem d_L_law_194 : decode c_L_law 194 = .ok (.iconst 0, 1) := by decide +kernel
theorem d_L_law_195 : decode c_L_law 195 = .ok (.ireturn, 1) := by decide +kernel
theorem d_L_law_196 : decode c_L_law 196 = .ok (.aload_n 1, 1) := by decide +kernel
theorem d_L_law_197 : decode c_L_law 197 = .ok (.aload_n 0, 1) := by decide +kernel
theorem d_L_law_198 : decode c_L_law 198 = .ok (.iload_n 3, 1) := by decide +kernel
theorem d_L_law_199 : decode c_L_law 199 = .ok (.iconst 1, 1) := by decide +kernel
theorem d_L_law_200 : decode c_L_law 200 = .ok (.iadd, 1) := by decide +kernel
theorem d_L_law_201 : decode c_L_law 201 = .ok (.iaload, 1) := by decide +kernel
theorem d_L_law_202 : decode c_L_law 202 = .ok (.invokevirtual 23, 3) := by decide +kernel
theorem d_L_law_205 : decode c_L_law 205 = .ok (.aload_n 2, 1) := by decide +kernel
theorem d_L_law_206 : decode c_L_law 206 = .ok (.aload_n 0, 1) := by decide +kernel
theorem d_L_law_207 : decode c_L_law 207 = .ok (.iload_n 3, 1) := by decide +kernel
theorem d_L_law_208 : decode c_L_law 208 = .ok (.iconst 1, 1) := by decide +kernel
theorem d_L_law_209 : decode c_L_law 209 = .ok (.iadd, 1) := by decide +kernel
theorem d_L_law_210 : decode c_L_law 210 = .ok (.iaload, 1) := by decide +kernel
theorem d_L_law_211 : decode c_L_law 211 = .ok (.invokevirtual 26, 3) := by decide +kernel
theorem d_L_law_214 : decode c_L_law 214 = .ok (.if_icmp .eq 403, 3) := by decide +kernel
theorem d_L_law_217 : decode c_L_law 217 = .ok (.iconst 0, 1) := by decide +kernel
theorem d_L_law_218 : decode c_L_law 218 = .ok (.ireturn, 1) := by decide +kernel
theorem d_L_law_219 : decode c_L_law 219 = .ok (.aload_n 1, 1) := by decide +kernel
theorem d_L_law_220 : decode c_L_law 220 = .ok (.aload_n 0, 1) := by decide +kernel
theorem d_L_law_221 : decode c_L_law 221 = .ok (.iload_n 3, 1) := by decide +kernel
theorem d_L_law_222 : decode c_L_law 222 = .ok (.iconst 1, 1) := by decide +kernel
theorem d_L_law_223 : decode c_L_law 223 = .ok (.iadd, 1) := by decide +kernel
theorem d_L_law_224 : decode c_L_law 224 = .ok (.iaload, 1) := by decide +kernel
theorem d_L_law_225 : decode c_L_law 225 = .ok (.invokevirtual 27, 3) := by decide +kernel
theorem d_L_law_228 : decode c_L_law 228 = .ok (.aload_n 2, 1) := by decide +kernel
theorem d_L_law_229 : decode c_L_law 229 = .ok (.aload_n 0, 1) := by decide +kernel
theorem d_L_law_230 : decode c_L_law 230 = .ok (.iload_n 3, 1) := by decide +kernel
theorem d_L_law_231 : decode c_L_law 231 = .ok (.iconst 1, 1) := by decide +kernel
theorem d_L_law_232 : decode c_L_law 232 = .ok (.iadd, 1) := by decide +kernel
theorem d_L_law_233 : decode c_L_law 233 = .ok (.iaload, 1) := by decide +kernel
theorem d_L_law_234 : decode c_L_law 234 = .ok (.invokevirtual 31, 3) := by decide +kernel
theorem d_L_law_237 : decode c_L_law 237 = .ok (.if_icmp .eq 380, 3) := by decide +kernel
theorem d_L_law_240 : decode c_L_law 240 = .ok (.iconst 0, 1) := by decide +kernel
theorem d_L_law_241 : decode c_L_law 241 = .ok (.ireturn, 1) := by decide +kernel
theorem d_L_law_242 : decode c_L_law 242 = .ok (.aload_n 1, 1) := by decide +kernel
theorem d_L_law_243 : decode c_L_law 243 = .ok (.aload_n 0, 1) := by decide +kernel
theorem d_L_law_244 : decode c_L_law 244 = .ok (.iload_n 3, 1) := by decide +kernel
theorem d_L_law_245 : decode c_L_law 245 = .ok (.iconst 1, 1) := by decide +kernel
theorem d_L_law_246 : decode c_L_law 246 = .ok (.iadd, 1) := by decide +kernel
theorem d_L_law_247 : decode c_L_law 247 = .ok (.iaload, 1) := by decide +kernel
theorem d_L_law_248 : decode c_L_law 248 = .ok (.invokevirtual 32, 3) := by decide +kernel
theorem d_L_law_251 : decode c_L_law 251 = .ok (.aload_n 2, 1) := by decide +kernel
theorem d_L_law_252 : decode c_L_law 252 = .ok (.aload_n 0, 1) := by decide +kernel
theorem d_L_law_253 : decode c_L_law 253 = .ok (.iload_n 3, 1) := by decide +kernel
theorem d_L_law_254 : decode c_L_law 254 = .ok (.iconst 1, 1) := by decide +kernel
theorem d_L_law_255 : decode c_L_law 255 = .ok (.iadd, 1) := by decide +kernel
theorem d_L_law_256 : decode c_L_law 256 = .ok (.iaload, 1) := by decide +kernel
theorem d_L_law_257 : decode c_L_law 257 = .ok (.invokevirtual 35, 3) := by decide +kernel
theorem d_L_law_260 : decode c_L_law 260 = .ok (.if_icmp .eq 357, 3) := by decide +kernel
theorem d_L_law_263 : decode c_L_law 263 = .ok (.iconst 0, 1) := by decide +kernel
theorem d_L_law_264 : decode c_L_law 264 = .ok (.ireturn, 1) := by decide +kernel
theorem d_L_law_265 : decode c_L_law 265 = .ok (.aload_n 1, 1) := by decide +kernel
theorem d_L_law_266 : decode c_L_law 266 = .ok (.aload_n 0, 1) := by decide +kernel
theorem d_L_law_267 : decode c_L_law 267 = .ok (.iload_n 3, 1) := by decide +kernel
theorem d_L_law_268 : decode c_L_law 268 = .ok (.iconst 1, 1) := by decide +kernel
theorem d_L_law_269 : decode c_L_law 269 = .ok (.iadd, 1) := by decide +kernel
theorem d_L_law_270 : decode c_L_law 270 = .ok (.iaload, 1) := by decide +kernel
theorem d_L_law_271 : decode c_L_law 271 = .ok (.aload_n 0, 1) := by decide +kernel
theorem d_L_law_272 : decode c_L_law 272 = .ok (.iload_n 3, 1) := by decide +kernel
theorem d_L_law_273 : decode c_L_law 273 = .ok (.iconst 2, 1) := by decide +kernel
theorem d_L_law_274 : decode c_L_law 274 = .ok (.iadd, 1) := by decide +kernel
theorem d_L_law_275 : decode c_L_law 275 = .ok (.iaload, 1) := by decide +kernel
theorem d_L_law_276 : decode c_L_law 276 = .ok (.invokevirtual 36, 3) := by decide +kernel
theorem d_L_law_279 : decode c_L_law 279 = .ok (.aload_n 2, 1) := by decide +kernel
theorem d_L_law_280 : decode c_L_law 280 = .ok (.aload_n 0, 1) := by decide +kernel
theorem d_L_law_281 : decode c_L_law 281 = .ok (.iload_n 3, 1) := by decide +kernel
theorem d_L_law_282 : decode c_L_law 282 = .ok (.iconst 1, 1) := by decide +kernel
theorem d_L_law_283 : decode c_L_law 283 = .ok (.iadd, 1) := by decide +kernel
theorem d_L_law_284 : decode c_L_law 284 = .ok (.iaload, 1) := by decide +kernel
theorem d_L_law_285 : decode c_L_law 285 = .ok (.aload_n 0, 1) := by decide +kernel
theorem d_L_law_286 : decode c_L_law 286 = .ok (.iload_n 3, 1) := by decide +kernel
theorem d_L_law_287 : decode c_L_law 287 = .ok (.iconst 2, 1) := by decide +kernel
theorem d_L_law_288 : decode c_L_law 288 = .ok (.iadd, 1) := by decide +kernel
theorem d_L_law_289 : decode c_L_law 289 = .ok (.iaload, 1) := by decide +kernel
theorem d_L_law_290 : decode c_L_law 290 = .ok (.invokevirtual 40, 3) := by decide +kernel
theorem d_L_law_293 : decode c_L_law 293 = .ok (.if_icmp .eq 324, 3) := by decide +kernel
theorem d_L_law_296 : decode c_L_law 296 = .ok (.iconst 0, 1) := by decide +kernel
theorem d_L_law_297 : decode c_L_law 297 = .ok (.ireturn, 1) := by decide +kernel
theorem d_L_law_298 : decode c_L_law 298 = .ok (.aload_n 1, 1) := by decide +kernel
theorem d_L_law_299 : decode c_L_law 299 = .ok (.aload_n 0, 1) := by decide +kernel
theorem d_L_law_300 : decode c_L_law 300 = .ok (.iload_n 3, 1) := by decide +kernel
theorem d_L_law_301 : decode c_L_law 301 = .ok (.iconst 1, 1) := by decide +kernel
theorem d_L_law_302 : decode c_L_law 302 = .ok (.iadd, 1) := by decide +kernel
theorem d_L_law_303 : decode c_L_law 303 = .ok (.iaload, 1) := by decide +kernel
theorem d_L_law_304 : decode c_L_law 304 = .ok (.aload_n 0, 1) := by decide +kernel
theorem d_L_law_305 : decode c_L_law 305 = .ok (.iload_n 3, 1) := by decide +kernel
theorem d_L_law_306 : decode c_L_law 306 = .ok (.iconst 2, 1) := by decide +kernel
theorem d_L_law_307 : decode c_L_law 307 = .ok (.iadd, 1) := by decide +kernel
theorem d_L_law_308 : decode c_L_law 308 = .ok (.iaload, 1) := by decide +kernel
theorem d_L_law_309 : decode c_L_law 309 = .ok (.invokevirtual 41, 3) := by decide +kernel
theorem d_L_law_312 : decode c_L_law 312 = .ok (.aload_n 2, 1) := by decide +kernel
theorem d_L_law_313 : decode c_L_law 313 = .ok (.aload_n 0, 1) := by decide +kernel
theorem d_L_law_314 : decode c_L_law 314 = .ok (.iload_n 3, 1) := by decide +kernel
theorem d_L_law_315 : decode c_L_law 315 = .ok (.iconst 1, 1) := by decide +kernel
theorem d_L_law_316 : decode c_L_law 316 = .ok (.iadd, 1) := by decide +kernel
theorem d_L_law_317 : decode c_L_law 317 = .ok (.iaload, 1) := by decide +kernel
theorem d_L_law_318 : decode c_L_law 318 = .ok (.aload_n 0, 1) := by decide +kernel
theorem d_L_law_319 : decode c_L_law 319 = .ok (.iload_n 3, 1) := by decide +kernel
theorem d_L_law_320 : decode c_L_law 320 = .ok (.iconst 2, 1) := by decide +kernel
theorem d_L_law_321 : decode c_L_law 321 = .ok (.iadd, 1) := by decide +kernel
theorem d_L_law_322 : decode c_L_law 322 = .ok (.iaload, 1) := by decide +kernel
theorem d_L_law_323 : decode c_L_law 323 = .ok (.invokevirtual 44, 3) := by decide +kernel
theorem d_L_law_326 : decode c_L_law 326 = .ok (.if_icmp .eq 291, 3) := by decide +kernel
theorem d_L_law_329 : decode c_L_law 329 = .ok (.iconst 0, 1) := by decide +kernel
theorem d_L_law_330 : decode c_L_law 330 = .ok (.ireturn, 1) := by decide +kernel
theorem d_L_law_331 : decode c_L_law 331 = .ok (.aload_n 1, 1) := by decide +kernel
theorem d_L_law_332 : decode c_L_law 332 = .ok (.aload_n 0, 1) := by decide +kernel
theorem d_L_law_333 : decode c_L_law 333 = .ok (.iload_n 3, 1) := by decide +kernel
theorem d_L_law_334 : decode c_L_law 334 = .ok (.iconst 1, 1) := by decide +kernel
theorem d_L_law_335 : decode c_L_law 335 = .ok (.iadd, 1) := by decide +kernel
theorem d_L_law_336 : decode c_L_law 336 = .ok (.iaload, 1) := by decide +kernel
theorem d_L_law_337 : decode c_L_law 337 = .ok (.invokevirtual 45, 3) := by decide +kernel
theorem d_L_law_340 : decode c_L_law 340 = .ok (.aload_n 2, 1) := by decide +kernel
theorem d_L_law_341 : decode c_L_law 341 = .ok (.aload_n 0, 1) := by decide +kernel
theorem d_L_law_342 : decode c_L_law 342 = .ok (.iload_n 3, 1) := by decide +kernel
theorem d_L_law_343 : decode c_L_law 343 = .ok (.iconst 1, 1) := by decide +kernel
theorem d_L_law_344 : decode c_L_law 344 = .ok (.iadd, 1) := by decide +kernel
theorem d_L_law_345 : decode c_L_law 345 = .ok (.iaload, 1) := by decide +kernel
theorem d_L_law_346 : decode c_L_law 346 = .ok (.invokevirtual 48, 3) := by decide +kernel
theorem d_L_law_349 : decode c_L_law 349 = .ok (.if_icmp .eq 268, 3) := by decide +kernel
theorem d_L_law_352 : decode c_L_law 352 = .ok (.iconst 0, 1) := by decide +kernel
theorem d_L_law_353 : decode c_L_law 353 = .ok (.ireturn, 1) := by decide +kernel
theorem d_L_law_354 : decode c_L_law 354 = .ok (.aload_n 1, 1) := by decide +kernel
theorem d_L_law_355 : decode c_L_law 355 = .ok (.aload_n 0, 1) := by decide +kernel
theorem d_L_law_356 : decode c_L_law 356 = .ok (.iload_n 3, 1) := by decide +kernel
theorem d_L_law_357 : decode c_L_law 357 = .ok (.iconst 1, 1) := by decide +kernel
theorem d_L_law_358 : decode c_L_law 358 = .ok (.iadd, 1) := by decide +kernel
theorem d_L_law_359 : decode c_L_law 359 = .ok (.iaload, 1) := by decide +kernel
theorem d_L_law_360 : decode c_L_law 360 = .ok (.invokevirtual 49, 3) := by decide +kernel
theorem d_L_law_363 : decode c_L_law 363 = .ok (.aload_n 2, 1) := by decide +kernel
theorem d_L_law_364 : decode c_L_law 364 = .ok (.aload_n 0, 1) := by decide +kernel
theorem d_L_law_365 : decode c_L_law 365 = .ok (.iload_n 3, 1) := by decide +kernel
theorem d_L_law_366 : decode c_L_law 366 = .ok (.iconst 1, 1) := by decide +kernel
theorem d_L_law_367 : decode c_L_law 367 = .ok (.iadd, 1) := by decide +kernel
theorem d_L_law_368 : decode c_L_law 368 = .ok (.iaload, 1) := by decide +kernel
theorem d_L_law_369 : decode c_L_law 369 = .ok (.invokevirtual 52, 3) := by decide +kernel
theorem d_L_law_372 : decode c_L_law 372 = .ok (.if_icmp .eq 245, 3) := by decide +kernel
theorem d_L_law_375 : decode c_L_law 375 = .ok (.iconst 0, 1) := by decide +kernel
theorem d_L_law_376 : decode c_L_law 376 = .ok (.ireturn, 1) := by decide +kernel
theorem d_L_law_377 : decode c_L_law 377 = .ok (.aload_n 1, 1) := by decide +kernel
theorem d_L_law_378 : decode c_L_law 378 = .ok (.aload_n 0, 1) := by decide +kernel
theorem d_L_law_379 : decode c_L_law 379 = .ok (.iload_n 3, 1) := by decide +kernel
theorem d_L_law_380 : decode c_L_law 380 = .ok (.iconst 1, 1) := by decide +kernel
theorem d_L_law_381 : decode c_L_law 381 = .ok (.iadd, 1) := by decide +kernel
theorem d_L_law_382 : decode c_L_law 382 = .ok (.iaload, 1) := by decide +kernel
theorem d_L_law_383 : decode c_L_law 383 = .ok (.invokevirtual 53, 3) := by decide +kernel
theorem d_L_law_386 : decode c_L_law 386 = .ok (.aload_n 2, 1) := by decide +kernel
theorem d_L_law_387 : decode c_L_law 387 = .ok (.aload_n 0, 1) := by decide +kernel
theorem d_L_law_388 : decode c_L_law 388 = .ok (.iload_n 3, 1) := by decide +kernel
theorem d_L_law_389 : decode c_L_law 389 = .ok (.iconst 1, 1) := by decide +kernel
theorem d_L_law_390 : decode c_L_law 390 = .ok (.iadd, 1) := by decide +kernel
theorem d_L_law_391 : decode c_L_law 391 = .ok (.iaload, 1) := by decide +kernel
theorem d_L_law_392 : decode c_L_law 392 = .ok (.invokevirtual 56, 3) := by decide +kernel
theorem d_L_law_395 : decode c_L_law 395 = .ok (.if_icmp .eq 222, 3) := by decide +kernel
theorem d_L_law_398 : decode c_L_law 398 = .ok (.iconst 0, 1) := by decide +kernel
theorem d_L_law_399 : decode c_L_law 399 = .ok (.ireturn, 1) := by decide +kernel
theorem d_L_law_400 : decode c_L_law 400 = .ok (.aload_n 1, 1) := by decide +kernel
theorem d_L_law_401 : decode c_L_law 401 = .ok (.aload_n 0, 1) := by decide +kernel
theorem d_L_law_402 : decode c_L_law 402 = .ok (.iload_n 3, 1) := by decide +kernel
theorem d_L_law_403 : decode c_L_law 403 = .ok (.iconst 1, 1) := by decide +kernel
theorem d_L_law_404 : decode c_L_law 404 = .ok (.iadd, 1) := by decide +kernel
theorem d_L_law_405 : decode c_L_law 405 = .ok (.iaload, 1) := by decide +kernel
theorem d_L_law_406 : decode c_L_law 406 = .ok (.invokevirtual 57, 3) := by decide +kernel
theorem d_L_law_409 : decode c_L_law 409 = .ok (.aload_n 2, 1) := by decide +kernel
theorem d_L_law_410 : decode c_L_law 410 = .ok (.aload_n 0, 1) := by decide +kernel
theorem d_L_law_411 : decode c_L_law 411 = .ok (.iload_n 3, 1) := by decide +kernel
theorem d_L_law_412 : decode c_L_law 412 = .ok (.iconst 1, 1) := by decide +kernel
theorem d_L_law_413 : decode c_L_law 413 = .ok (.iadd, 1) := by decide +kernel
theorem d_L_law_414 : decode c_L_law 414 = .ok (.iaload, 1) := by decide +kernel
theorem d_L_law_415 : decode c_L_law 415 = .ok (.invokevirtual 60, 3) := by decide +kernel
theorem d_L_law_418 : decode c_L_law 418 = .ok (.if_icmp .eq 199, 3) := by decide +kernel
theorem d_L_law_421 : decode c_L_law 421 = .ok (.iconst 0, 1) := by decide +kernel
theorem d_L_law_422 : decode c_L_law 422 = .ok (.ireturn, 1) := by decide +kernel
theorem d_L_law_423 : decode c_L_law 423 = .ok (.aload_n 1, 1) := by decide +kernel
theorem d_L_law_424 : decode c_L_law 424 = .ok (.aload_n 0, 1) := by decide +kernel
theorem d_L_law_425 : decode c_L_law 425 = .ok (.iload_n 3, 1) := by decide +kernel
theorem d_L_law_426 : decode c_L_law 426 = .ok (.iconst 1, 1) := by decide +kernel
theorem d_L_law_427 : decode c_L_law 427 = .ok (.iadd, 1) := by decide +kernel
theorem d_L_law_428 : decode c_L_law 428 = .ok (.iaload, 1) := by decide +kernel
theorem d_L_law_429 : decode c_L_law 429 = .ok (.invokevirtual 61, 3) := by decide +kernel
theorem d_L_law_432 : decode c_L_law 432 = .ok (.aload_n 2, 1) := by decide +kernel
theorem d_L_law_433 : decode c_L_law 433 = .ok (.aload_n 0, 1) := by decide +kernel
theorem d_L_law_434 : decode c_L_law 434 = .ok (.iload_n 3, 1) := by decide +kernel
theorem d_L_law_435 : decode c_L_law 435 = .ok (.iconst 1, 1) := by decide +kernel
theorem d_L_law_436 : decode c_L_law 436 = .ok (.iadd, 1) := by decide +kernel
theorem d_L_law_437 : decode c_L_law 437 = .ok (.iaload, 1) := by decide +kernel
theorem d_L_law_438 : decode c_L_law 438 = .ok (.invokevirtual 64, 3) := by decide +kernel
theorem d_L_law_441 : decode c_L_law 441 = .ok (.if_icmp .eq 176, 3) := by decide +kernel
theorem d_L_law_444 : decode c_L_law 444 = .ok (.iconst 0, 1) := by decide +kernel
theorem d_L_law_445 : decode c_L_law 445 = .ok (.ireturn, 1) := by decide +kernel
theorem d_L_law_446 : decode c_L_law 446 = .ok (.aload_n 1, 1) := by decide +kernel
theorem d_L_law_447 : decode c_L_law 447 = .ok (.aload_n 0, 1) := by decide +kernel
theorem d_L_law_448 : decode c_L_law 448 = .ok (.iload_n 3, 1) := by decide +kernel
theorem d_L_law_449 : decode c_L_law 449 = .ok (.iconst 1, 1) := by decide +kernel
theorem d_L_law_450 : decode c_L_law 450 = .ok (.iadd, 1) := by decide +kernel
theorem d_L_law_451 : decode c_L_law 451 = .ok (.iaload, 1) := by decide +kernel
theorem d_L_law_452 : decode c_L_law 452 = .ok (.invokevirtual 65, 3) := by decide +kernel
theorem d_L_law_455 : decode c_L_law 455 = .ok (.aload_n 2, 1) := by decide +kernel
theorem d_L_law_456 : decode c_L_law 456 = .ok (.aload_n 0, 1) := by decide +kernel
theorem d_L_law_457 : decode c_L_law 457 = .ok (.iload_n 3, 1) := by decide +kernel
theorem d_L_law_458 : decode c_L_law 458 = .ok (.iconst 1, 1) := by decide +kernel
theorem d_L_law_459 : decode c_L_law 459 = .ok (.iadd, 1) := by decide +kernel
theorem d_L_law_460 : decode c_L_law 460 = .ok (.iaload, 1) := by decide +kernel
theorem d_L_law_461 : decode c_L_law 461 = .ok (.invokevirtual 68, 3) := by decide +kernel
theorem d_L_law_464 : decode c_L_law 464 = .ok (.if_icmp .eq 153, 3) := by decide +kernel
theorem d_L_law_467 : decode c_L_law 467 = .ok (.iconst 0, 1) := by decide +kernel
theorem d_L_law_468 : decode c_L_law 468 = .ok (.ireturn, 1) := by decide +kernel
theorem d_L_law_469 : decode c_L_law 469 = .ok (.aload_n 1, 1) := by decide +kernel
theorem d_L_law_470 : decode c_L_law 470 = .ok (.aload_n 0, 1) := by decide +kernel
theorem d_L_law_471 : decode c_L_law 471 = .ok (.iload_n 3, 1) := by decide +kernel
theorem d_L_law_472 : decode c_L_law 472 = .ok (.iconst 1, 1) := by decide +kernel
theorem d_L_law_473 : decode c_L_law 473 = .ok (.iadd, 1) := by decide +kernel
theorem d_L_law_474 : decode c_L_law 474 = .ok (.iaload, 1) := by decide +kernel
theorem d_L_law_475 : decode c_L_law 475 = .ok (.invokevirtual 69, 3) := by decide +kernel
theorem d_L_law_478 : decode c_L_law 478 = .ok (.aload_n 2, 1) := by decide +kernel
theorem d_L_law_479 : decode c_L_law 479 = .ok (.aload_n 0, 1) := by decide +kernel
theorem d_L_law_480 : decode c_L_law 480 = .ok (.iload_n 3, 1) := by decide +kernel
theorem d_L_law_481 : decode c_L_law 481 = .ok (.iconst 1, 1) := by decide +kernel
theorem d_L_law_482 : decode c_L_law 482 = .ok (.iadd, 1) := by decide +kernel
theorem d_L_law_483 : decode c_L_law 483 = .ok (.iaload, 1) := by decide +kernel
theorem d_L_law_484 : decode c_L_law 484 = .ok (.invokevirtual 72, 3) := by decide +kernel
theorem d_L_law_487 : decode c_L_law 487 = .ok (.if_icmp .eq 130, 3) := by decide +kernel
theorem d_L_law_490 : decode c_L_law 490 = .ok (.iconst 0, 1) := by decide +kernel
theorem d_L_law_491 : decode c_L_law 491 = .ok (.ireturn, 1) := by decide +kernel
theorem d_L_law_492 : decode c_L_law 492 = .ok (.aload_n 1, 1) := by decide +kernel
theorem d_L_law_493 : decode c_L_law 493 = .ok (.aload_n 0, 1) := by decide +kernel
theorem d_L_law_494 : decode c_L_law 494 = .ok (.iload_n 3, 1) := by decide +kernel
theorem d_L_law_495 : decode c_L_law 495 = .ok (.iconst 1, 1) := by decide +kernel
theorem d_L_law_496 : decode c_L_law 496 = .ok (.iadd, 1) := by decide +kernel
theorem d_L_law_497 : decode c_L_law 497 = .ok (.iaload, 1) := by decide +kernel
theorem d_L_law_498 : decode c_L_law 498 = .ok (.invokevirtual 73, 3) := by decide +kernel
theorem d_L_law_501 : decode c_L_law 501 = .ok (.aload_n 2, 1) := by decide +kernel
theorem d_L_law_502 : decode c_L_law 502 = .ok (.aload_n 0, 1) := by decide +kernel
theorem d_L_law_503 : decode c_L_law 503 = .ok (.iload_n 3, 1) := by decide +kernel
theorem d_L_law_504 : decode c_L_law 504 = .ok (.iconst 1, 1) := by decide +kernel
theorem d_L_law_505 : decode c_L_law 505 = .ok (.iadd, 1) := by decide +kernel
theorem d_L_law_506 : decode c_L_law 506 = .ok (.iaload, 1) := by decide +kernel
theorem d_L_law_507 : decode c_L_law 507 = .ok (.invokevirtual 76, 3) := by decide +kernel
theorem d_L_law_510 : decode c_L_law 510 = .ok (.if_icmp .eq 107, 3) := by decide +kernel
theorem d_L_law_513 : decode c_L_law 513 = .ok (.iconst 0, 1) := by decide +kernel
theorem d_L_law_514 : decode c_L_law 514 = .ok (.ireturn, 1) := by decide +kernel
theorem d_L_law_515 : decode c_L_law 515 = .ok (.aload_n 1, 1) := by decide +kernel
theorem d_L_law_516 : decode c_L_law 516 = .ok (.aload_n 0, 1) := by decide +kernel
theorem d_L_law_517 : decode c_L_law 517 = .ok (.iload_n 3, 1) := by decide +kernel
theorem d_L_law_518 : decode c_L_law 518 = .ok (.iconst 1, 1) := by decide +kernel
theorem d_L_law_519 : decode c_L_law 519 = .ok (.iadd, 1) := by decide +kernel
theorem d_L_law_520 : decode c_L_law 520 = .ok (.iaload, 1) := by decide +kernel
theorem d_L_law_521 : decode c_L_law 521 = .ok (.invokevirtual 77, 3) := by decide +kernel
theorem d_L_law_524 : decode c_L_law 524 = .ok (.aload_n 2, 1) := by decide +kernel
theorem d_L_law_525 : decode c_L_law 525 = .ok (.aload_n 0, 1) := by decide +kernel
theorem d_L_law_526 : decode c_L_law 526 = .ok (.iload_n 3, 1) := by decide +kernel
theorem d_L_law_527 : decode c_L_law 527 = .ok (.iconst 1, 1) := by decide +kernel
theorem d_L_law_528 : decode c_L_law 528 = .ok (.iadd, 1) := by decide +kernel
theorem d_L_law_529 : decode c_L_law 529 = .ok (.iaload, 1) := by decide +kernel
theorem d_L_law_530 : decode c_L_law 530 = .ok (.invokevirtual 80, 3) := by decide +kernel
theorem d_L_law_533 : decode c_L_law 533 = .ok (.if_icmp .eq 84, 3) := by decide +kernel
theorem d_L_law_536 : decode c_L_law 536 = .ok (.iconst 0, 1) := by decide +kernel
theorem d_L_law_537 : decode c_L_law 537 = .ok (.ireturn, 1) := by decide +kernel
theorem d_L_law_538 : decode c_L_law 538 = .ok (.aload_n 1, 1) := by decide +kernel
theorem d_L_law_539 : decode c_L_law 539 = .ok (.aload_n 0, 1) := by decide +kernel
theorem d_L_law_540 : decode c_L_law 540 = .ok (.iload_n 3, 1) := by decide +kernel
theorem d_L_law_541 : decode c_L_law 541 = .ok (.iconst 1, 1) := by decide +kernel
theorem d_L_law_542 : decode c_L_law 542 = .ok (.iadd, 1) := by decide +kernel
theorem d_L_law_543 : decode c_L_law 543 = .ok (.iaload, 1) := by decide +kernel
theorem d_L_law_544 : decode c_L_law 544 = .ok (.invokevirtual 81, 3) := by decide +kernel
theorem d_L_law_547 : decode c_L_law 547 = .ok (.aload_n 2, 1) := by decide +kernel
theorem d_L_law_548 : decode c_L_law 548 = .ok (.aload_n 0, 1) := by decide +kernel
theorem d_L_law_549 : decode c_L_law 549 = .ok (.iload_n 3, 1) := by decide +kernel
theorem d_L_law_550 : decode c_L_law 550 = .ok (.iconst 1, 1) := by decide +kernel
theorem d_L_law_551 : decode c_L_law 551 = .ok (.iadd, 1) := by decide +kernel
theorem d_L_law_552 : decode c_L_law 552 = .ok (.iaload, 1) := by decide +kernel
theorem d_L_law_553 : decode c_L_law 553 = .ok (.invokevirtual 84, 3) := by decide +kernel
theorem d_L_law_556 : decode c_L_law 556 = .ok (.if_icmp .eq 61, 3) := by decide +kernel
theorem d_L_law_559 : decode c_L_law 559 = .ok (.iconst 0, 1) := by decide +kernel
theorem d_L_law_560 : decode c_L_law 560 = .ok (.ireturn, 1) := by decide +kernel
theorem d_L_law_561 : decode c_L_law 561 = .ok (.aload_n 1, 1) := by decide +kernel
theorem d_L_law_562 : decode c_L_law 562 = .ok (.aload_n 0, 1) := by decide +kernel
theorem d_L_law_563 : decode c_L_law 563 = .ok (.iload_n 3, 1) := by decide +kernel
theorem d_L_law_564 : decode c_L_law 564 = .ok (.iconst 1, 1) := by decide +kernel
theorem d_L_law_565 : decode c_L_law 565 = .ok (.iadd, 1) := by decide +kernel
theorem d_L_law_566 : decode c_L_law 566 = .ok (.iaload, 1) := by decide +kernel
theorem d_L_law_567 : decode c_L_law 567 = .ok (.aload_n 0, 1) := by decide +kernel
theorem d_L_law_568 : decode c_L_law 568 = .ok (.iload_n 3, 1) := by decide +kernel
theorem d_L_law_569 : decode c_L_law 569 = .ok (.iconst 2, 1) := by decide +kernel
theorem d_L_law_570 : decode c_L_law 570 = .ok (.iadd, 1) := by decide +kernel
theorem d_L_law_571 : decode c_L_law 571 = .ok (.iaload, 1) := by decide +kernel
theorem d_L_law_572 : decode c_L_law 572 = .ok (.invokevirtual 85, 3) := by decide +kernel
theorem d_L_law_575 : decode c_L_law 575 = .ok (.aload_n 2, 1) := by decide +kernel
theorem d_L_law_576 : decode c_L_law 576 = .ok (.aload_n 0, 1) := by decide +kernel
theorem d_L_law_577 : decode c_L_law 577 = .ok (.iload_n 3, 1) := by decide +kernel
theorem d_L_law_578 : decode c_L_law 578 = .ok (.iconst 1, 1) := by decide +kernel
theorem d_L_law_579 : decode c_L_law 579 = .ok (.iadd, 1) := by decide +kernel
theorem d_L_law_580 : decode c_L_law 580 = .ok (.iaload, 1) := by decide +kernel
theorem d_L_law_581 : decode c_L_law 581 = .ok (.aload_n 0, 1) := by decide +kernel
theorem d_L_law_582 : decode c_L_law 582 = .ok (.iload_n 3, 1) := by decide +kernel
theorem d_L_law_583 : decode c_L_law 583 = .ok (.iconst 2, 1) := by decide +kernel
theorem d_L_law_584 : decode c_L_law 584 = .ok (.iadd, 1) := by decide +kernel
theorem d_L_law_585 : decode c_L_law 585 = .ok (.iaload, 1) := by decide +kernel
theorem d_L_law_586 : decode c_L_law 586 = .ok (.invokevirtual 89, 3) := by decide +kernel
theorem d_L_law_589 : decode c_L_law 589 = .ok (.if_icmp .eq 28, 3) := by decide +kernel
theorem d_L_law_592 : decode c_L_law 592 = .ok (.iconst 0, 1) := by decide +kernel
theorem d_L_law_593 : decode c_L_law 593 = .ok (.ireturn, 1) := by decide +kernel
theorem d_L_law_594 : decode c_L_law 594 = .ok (.aload_n 1, 1) := by decide +kernel
theorem d_L_law_595 : decode c_L_law 595 = .ok (.aload_n 0, 1) := by decide +kernel
theorem d_L_law_596 : decode c_L_law 596 = .ok (.iload_n 3, 1) := by decide +kernel
theorem d_L_law_597 : decode c_L_law 597 = .ok (.iconst 1, 1) := by decide +kernel
theorem d_L_law_598 : decode c_L_law 598 = .ok (.iadd, 1) := by decide +kernel
theorem d_L_law_599 : decode c_L_law 599 = .ok (.iaload, 1) := by decide +kernel
theorem d_L_law_600 : decode c_L_law 600 = .ok (.invokevirtual 90, 3) := by decide +kernel
theorem d_L_law_603 : decode c_L_law 603 = .ok (.aload_n 2, 1) := by decide +kernel
theorem d_L_law_604 : decode c_L_law 604 = .ok (.aload_n 0, 1) := by decide +kernel
theorem d_L_law_605 : decode c_L_law 605 = .ok (.iload_n 3, 1) := by decide +kernel
theorem d_L_law_606 : decode c_L_law 606 = .ok (.iconst 1, 1) := by decide +kernel
theorem d_L_law_607 : decode c_L_law 607 = .ok (.iadd, 1) := by decide +kernel
theorem d_L_law_608 : decode c_L_law 608 = .ok (.iaload, 1) := by decide +kernel
theorem d_L_law_609 : decode c_L_law 609 = .ok (.invokevirtual 93, 3) := by decide +kernel
theorem d_L_law_612 : decode c_L_law 612 = .ok (.if_icmp .eq 5, 3) := by decide +kernel
theorem d_L_law_615 : decode c_L_law 615 = .ok (.iconst 0, 1) := by decide +kernel
theorem d_L_law_616 : decode c_L_law 616 = .ok (.ireturn, 1) := by decide +kernel
theorem d_L_law_617 : decode c_L_law 617 = .ok (.iinc 3 3, 3) := by decide +kernel
theorem d_L_law_620 : decode c_L_law 620 = .ok (.goto (-602), 3) := by decide +kernel
theorem d_L_law_623 : decode c_L_law 623 = .ok (.iconst 1, 1) := by decide +kernel
theorem d_L_law_624 : decode c_L_law 624 = .ok (.ireturn, 1) := by decide +kernel
theorem d_J_bitCount_0 : decode c_J_bitCount 0 = .ok (.lload_n 0, 1) := by decide +kernel
theorem d_J_bitCount_1 : decode c_J_bitCount 1 = .ok (.lload_n 0, 1) := by decide +kernel
theorem d_J_bitCount_2 : decode c_J_bitCount 2 = .ok (.iconst 1, 1) := by decide +kernel
theorem d_J_bitCount_3 : decode c_J_bitCount 3 = .ok (.lushr, 1) := by decide +kernel
theorem d_J_bitCount_4 : decode c_J_bitCount 4 = .ok (.ldc2_w 314, 3) := by decide +kernel
theorem d_J_bitCount_7 : decode c_J_bitCount 7 = .ok (.land, 1) := by decide +kernel
theorem d_J_bitCount_8 : decode c_J_bitCount 8 = .ok (.lsub, 1) := by decide +kernel
theorem d_J_bitCount_9 : decode c_J_bitCount 9 = .ok (.lstore_n 0, 1) := by decide +kernel
theorem d_J_bitCount_10 : decode c_J_bitCount 10 = .ok (.lload_n 0, 1) := by decide +kernel
theorem d_J_bitCount_11 : decode c_J_bitCount 11 = .ok (.ldc2_w 316, 3) := by decide +kernel
theorem d_J_bitCount_14 : decode c_J_bitCount 14 = .ok (.land, 1) := by decide +kernel
theorem d_J_bitCount_15 : decode c_J_bitCount 15 = .ok (.lload_n 0, 1) := by decide +kernel
theorem d_J_bitCount_16 : decode c_J_bitCount 16 = .ok (.iconst 2, 1) := by decide +kernel
theorem d_J_bitCount_17 : decode c_J_bitCount 17 = .ok (.lushr, 1) := by decide +kernel
theorem d_J_bitCount_18 : decode c_J_bitCount 18 = .ok (.ldc2_w 316, 3) := by decide +kernel
theorem d_J_bitCount_21 : decode c_J_bitCount 21 = .ok (.land, 1) := by decide +kernel
theorem d_J_bitCount_22 : decode c_J_bitCount 22 = .ok (.ladd, 1) := by decide +kernel
theorem d_J_bitCount_23 : decode c_J_bitCount 23 = .ok (.lstore_n 0, 1) := by decide +kernel
theorem d_J_bitCount_24 : decode c_J_bitCount 24 = .ok (.lload_n 0, 1) := by decide +kernel
theorem d_J_bitCount_25 : decode c_J_bitCount 25 = .ok (.lload_n 0, 1) := by decide +kernel
theorem d_J_bitCount_26 : decode c_J_bitCount 26 = .ok (.iconst 4, 1) := by decide +kernel
theorem d_J_bitCount_27 : decode c_J_bitCount 27 = .ok (.lushr, 1) := by decide +kernel
theorem d_J_bitCount_28 : decode c_J_bitCount 28 = .ok (.ladd, 1) := by decide +kernel
theorem d_J_bitCount_29 : decode c_J_bitCount 29 = .ok (.ldc2_w 318, 3) := by decide +kernel
theorem d_J_bitCount_32 : decode c_J_bitCount 32 = .ok (.land, 1) := by decide +kernel
theorem d_J_bitCount_33 : decode c_J_bitCount 33 = .ok (.lstore_n 0, 1) := by decide +kernel
theorem d_J_bitCount_34 : decode c_J_bitCount 34 = .ok (.lload_n 0, 1) := by decide +kernel
theorem d_J_bitCount_35 : decode c_J_bitCount 35 = .ok (.lload_n 0, 1) := by decide +kernel
theorem d_J_bitCount_36 : decode c_J_bitCount 36 = .ok (.bipush 8, 2) := by decide +kernel
theorem d_J_bitCount_38 : decode c_J_bitCount 38 = .ok (.lushr, 1) := by decide +kernel
theorem d_J_bitCount_39 : decode c_J_bitCount 39 = .ok (.ladd, 1) := by decide +kernel
theorem d_J_bitCount_40 : decode c_J_bitCount 40 = .ok (.lstore_n 0, 1) := by decide +kernel
theorem d_J_bitCount_41 : decode c_J_bitCount 41 = .ok (.lload_n 0, 1) := by decide +kernel
theorem d_J_bitCount_42 : decode c_J_bitCount 42 = .ok (.lload_n 0, 1) := by decide +kernel
theorem d_J_bitCount_43 : decode c_J_bitCount 43 = .ok (.bipush 16, 2) := by decide +kernel
theorem d_J_bitCount_45 : decode c_J_bitCount 45 = .ok (.lushr, 1) := by decide +kernel
theorem d_J_bitCount_46 : decode c_J_bitCount 46 = .ok (.ladd, 1) := by decide +kernel
theorem d_J_bitCount_47 : decode c_J_bitCount 47 = .ok (.lstore_n 0, 1) := by decide +kernel
theorem d_J_bitCount_48 : decode c_J_bitCount 48 = .ok (.lload_n 0, 1) := by decide +kernel
theorem d_J_bitCount_49 : decode c_J_bitCount 49 = .ok (.lload_n 0, 1) := by decide +kernel
theorem d_J_bitCount_50 : decode c_J_bitCount 50 = .ok (.bipush 32, 2) := by decide +kernel
theorem d_J_bitCount_52 : decode c_J_bitCount 52 = .ok (.lushr, 1) := by decide +kernel
theorem d_J_bitCount_53 : decode c_J_bitCount 53 = .ok (.ladd, 1) := by decide +kernel
theorem d_J_bitCount_54 : decode c_J_bitCount 54 = .ok (.lstore_n 0, 1) := by decide +kernel
theorem d_J_bitCount_55 : decode c_J_bitCount 55 = .ok (.lload_n 0, 1) := by decide +kernel
theorem d_J_bitCount_56 : decode c_J_bitCount 56 = .ok (.l2i, 1) := by decide +kernel
theorem d_J_bitCount_57 : decode c_J_bitCount 57 = .ok (.bipush 127, 2) := by decide +kernel
theorem d_J_bitCount_59 : decode c_J_bitCount 59 = .ok (.iand, 1) := by decide +kernel
theorem d_J_bitCount_60 : decode c_J_bitCount 60 = .ok (.ireturn, 1) := by decide +kernel
end
section
/-! 02.pv: a walk over numbered cells. A value '.ref 0' is the script, '.ref (k + 1)' the cell k of the list M, which lies at the address base + k. -/
section PVDEF
def pv_ad (base b : Nat) (k : Nat) : Nat := match k with
  | 0 => b
  | j + 1 => base + j
def pv_tr (ad : Nat → Nat) (v : Value) : Value := match v with
  | .ref k => .ref (ad k)
  | .int x => .int x
  | .long x => .long x
  | .float x => .float x
  | .double x => .double x
  | .null => .null
  | .retAddr x => .retAddr x
def pv_ta (ad : Nat → Nat) (f : (Nat → Int32) ⊕ (Nat → Int64) ⊕ (Nat → UInt32) ⊕ (Nat → UInt64) ⊕ (Nat → Option Nat)) : (Nat → Int32) ⊕ (Nat → Int64) ⊕ (Nat → UInt32) ⊕ (Nat → UInt64) ⊕ (Nat → Option Nat) := match f with
  | .inl f => .inl f
  | .inr (.inl f) => .inr (.inl f)
  | .inr (.inr (.inl f)) => .inr (.inr (.inl f))
  | .inr (.inr (.inr (.inl f))) => .inr (.inr (.inr (.inl f)))
  | .inr (.inr (.inr (.inr f))) => .inr (.inr (.inr (.inr (fun j => (f j).map ad))))
def pv_te (ty : Nat → ClassId) (ad : Nat → Nat) (e : va_E) : va_E := match e with
  | .inl a => .inl (ty a.1, a.2.1, pv_ta ad a.2.2)
  | .inr q => .inr (q.1, q.2.map (pv_tr ad))
def pv_w (ty : Nat → ClassId) (base b : Nat) (M : List va_E) : va_W := M.mapIdx (fun k e => (base + k, pv_te ty (pv_ad base b) e))
theorem pv_w_get {ty : Nat → ClassId} {base b k : Nat} {M : List va_E} {e : va_E} (h : M[k]? = some e) : (pv_w ty base b M)[k]? = some (base + k, pv_te ty (pv_ad base b) e) := by
  simp [pv_w, List.getElem?_mapIdx, h]
theorem pv_w_inv {ty : Nat → ClassId} {base b k : Nat} {M : List va_E} {q : Nat × va_E} (h : (pv_w ty base b M)[k]? = some q) : q.1 = base + k ∧ k < M.length := by
  simp only [pv_w, List.getElem?_mapIdx, Option.map_eq_some_iff] at h
  obtain ⟨a, h1, h2⟩ := h
  exact ⟨by rw [← h2], (List.getElem?_eq_some_iff.mp h1).1⟩
theorem pv_w_set {ty : Nat → ClassId} {base b k : Nat} {M : List va_E} {e : va_E} : (pv_w ty base b M).set k (base + k, pv_te ty (pv_ad base b) e) = pv_w ty base b (M.set k e) := by
  apply List.ext_getElem?
  intro i
  by_cases h : k = i
  · subst h
    simp only [pv_w, List.getElem?_set_self', List.getElem?_mapIdx]
    cases M[k]? <;> rfl
  · simp only [pv_w, List.getElem?_set_ne h, List.getElem?_mapIdx]
theorem pv_w_push {ty : Nat → ClassId} {base b : Nat} {M : List va_E} {e : va_E} : pv_w ty base b (M ++ [e]) = pv_w ty base b M ++ [(base + M.length, pv_te ty (pv_ad base b) e)] := by
  simp [pv_w, List.mapIdx_append]
theorem pv_D {ty : Nat → ClassId} {base b : Nat} {M : List va_E} : va_D (fun q => base ≤ q) (pv_w ty base b M) := by
  refine ⟨fun i j x y hi hj hxy => ?_, fun k q hk => ?_⟩
  · have h1 := (pv_w_inv hi).1
    have h2 := (pv_w_inv hj).1
    omega
  · have h1 := (pv_w_inv hk).1
    show base ≤ q.1
    omega
/-- the locals that are known -/
def pv_l (ad : Nat → Nat) : Nat → List (Option Value) → List (Nat × Value)
  | _, [] => []
  | i, none :: t => pv_l ad (i + 1) t
  | i, some v :: t => (i, pv_tr ad v) :: pv_l ad (i + 1) t
theorem pv_l_in {ad : Nat → Nat} : ∀ (L : List (Option Value)) (i k : Nat) (v : Value), L[k]? = some (some v) → (i + k, pv_tr ad v) ∈ pv_l ad i L
  | [], _, _, _, h => by simp at h
  | none :: t, i, 0, v, h => by simp at h
  | some w :: t, i, 0, v, h => by
    simp at h
    subst h
    exact List.mem_cons_self
  | none :: t, i, k + 1, v, h => by
    have := pv_l_in (ad := ad) t (i + 1) k v (by simpa using h)
    rw [show i + (k + 1) = i + 1 + k by omega]
    exact this
  | some w :: t, i, k + 1, v, h => by
    have := pv_l_in (ad := ad) t (i + 1) k v (by simpa using h)
    rw [show i + (k + 1) = i + 1 + k by omega]
    exact List.mem_cons_of_mem _ this
theorem pv_l_of {ad : Nat → Nat} : ∀ (L : List (Option Value)) (i : Nat) (q : Nat × Value), q ∈ pv_l ad i L → ∃ (k : Nat) (v : Value), L[k]? = some (some v) ∧ q = (i + k, pv_tr ad v)
  | [], _, _, h => by simp [pv_l] at h
  | none :: t, i, q, h => by
    obtain ⟨k, v, h1, h2⟩ := pv_l_of (ad := ad) t (i + 1) q h
    exact ⟨k + 1, v, by simpa using h1, by rw [h2, show i + 1 + k = i + (k + 1) by omega]⟩
  | some w :: t, i, q, h => by
    rcases List.mem_cons.mp h with rfl | h
    · exact ⟨0, w, rfl, rfl⟩
    · obtain ⟨k, v, h1, h2⟩ := pv_l_of (ad := ad) t (i + 1) q h
      exact ⟨k + 1, v, by simpa using h1, by rw [h2, show i + 1 + k = i + (k + 1) by omega]⟩
theorem pv_at {ad : Nat → Nat} {ls : Array Slot} {nL k : Nat} {L : List (Option Value)} {v : Value} (h : lv_has ls nL (pv_l ad 0 L)) (hk : L[k]? = some (some v)) : ls[k]? = some (.val (pv_tr ad v)) := by
  have := h.2.2 _ (pv_l_in L 0 k v hk)
  simpa using this
theorem pv_cat (ad : Nat → Nat) (v : Value) : (pv_tr ad v).category = v.category := by cases v <;> rfl
theorem pv_keep {ad : Nat → Nat} {ls : Array Slot} {nL i : Nat} {L : List (Option Value)} {v : Value} {F : Nat × Value → Bool} (h : lv_has ls nL ((i, pv_tr ad v) :: (pv_l ad 0 L).filter F)) (hF : ∀ (k : Nat) (w : Value), L[k]? = some (some w) → k ≠ i → F (k, pv_tr ad w) = true) (hi : i < L.length) : lv_has ls nL (pv_l ad 0 (L.set i (some v))) := by
  refine ⟨h.1, h.2.1, fun q hq => ?_⟩
  obtain ⟨k, w, h1, h2⟩ := pv_l_of _ _ q hq
  subst h2
  refine h.2.2 _ ?_
  by_cases hk : i = k
  · subst hk
    rw [List.getElem?_set_self hi] at h1
    cases h1
    simp
  · rw [List.getElem?_set_ne hk] at h1
    refine List.mem_cons_of_mem _ (List.mem_filter.mpr ⟨pv_l_in L 0 k w h1, ?_⟩)
    rw [Nat.zero_add]
    exact hF k w h1 (fun z => hk z.symm)
/-- the local ahead of i is no long -/
def pv_n2 (L : List (Option Value)) (i : Nat) : Bool := match i with
  | 0 => true
  | j + 1 => match L[j]? with
    | some (some (.long _)) => false
    | some (some (.double _)) => false
    | _ => true
theorem pv_n2_spec {L : List (Option Value)} {i k : Nat} {w : Value} (h : pv_n2 L i = true) (hk : L[k]? = some (some w)) (e : k + 1 = i) : ¬ w.category = 2 := by
  subst e
  simp only [pv_n2, hk] at h
  cases w <;> simp_all [Value.category]
theorem pv_keep1 {ad : Nat → Nat} {ls : Array Slot} {nL i : Nat} {L : List (Option Value)} {v w : Value} (hw : pv_tr ad v = w) (hn : pv_n2 L i = true) (hi : i < L.length) (h : lv_has ls nL ((i, w) :: (pv_l ad 0 L).filter (fun q => !(q.1 == i) && !(q.1 + 1 == i && q.2.category == 2)))) : lv_has ls nL (pv_l ad 0 (L.set i (some v))) := by
  subst hw
  refine pv_keep h (fun k w h1 h2 => ?_) hi
  have h3 := pv_n2_spec (k := k) (w := w) hn h1
  simp only [pv_cat]
  by_cases e : k + 1 = i
  · simp [h2, e, h3 e]
  · simp [h2, e]
theorem pv_keep2 {ad : Nat → Nat} {ls : Array Slot} {nL i : Nat} {L : List (Option Value)} {x : Int64} (hn : pv_n2 L i = true) (hi : i < L.length) (hs : ∀ w, L[i + 1]? ≠ some (some w)) (h : lv_has ls nL ((i, Value.long x) :: (pv_l ad 0 L).filter (fun q => !(q.1 == i) && (!(q.1 == i + 1) && !(q.1 + 1 == i && q.2.category == 2))))) : lv_has ls nL (pv_l ad 0 (L.set i (some (.long x)))) := by
  refine pv_keep (v := .long x) h (fun k w h1 h2 => ?_) hi
  have h3 := pv_n2_spec (k := k) (w := w) hn h1
  have h4 : ¬ k = i + 1 := fun z => hs w (z ▸ h1)
  simp only [pv_cat]
  by_cases e : k + 1 = i
  · simp [h2, e, h3 e, h4]
  · simp [h2, e, h4]
end PVDEF

section PV
/-- what a method's body may use of its state: the machine, the code, the words, the tables, its own kind -/
def pv_C (D : va_G) (ty : Nat → ClassId) (base : Nat) (cc : ByteArray) (nL : Nat) (own : String) (ret : Option FieldType) (nm : String) (Ex : State → Prop) (p : Program) (s : State) (m : MethodId) (args : Array Value) (meth : Method) (c : Code) : Prop :=
  CallFix p m c cc nL s args pv_T own ∧ pv_K D ty s ∧ meth.sig.returnType = ret ∧ meth.locks = false ∧ meth.name = nm ∧ base ≤ s.heap.size ∧ Ex s
def pv_V (l : Launch) (D : va_G) (ty : Nat → ClassId) (base b : Nat) (cc : ByteArray) (nL : Nat) (own : String) (ret : Option FieldType) (nm : String) (R : Room) (Ex : State → Prop) (Qf : List Frame → Array Value → State → State → Prop) (cells slots pc : Nat) (L : List (Option Value)) (st : List Value) (M : List va_E) : Prop :=
  ∀ (p : Program) (e : Env) (s : State) (m : MethodId) (args : Array Value) (below : List Frame) (meth : Method) (c : Code), pv_C D ty base cc nL own ret nm Ex p s m args meth c →
  ∀ (H : Heap) (locs : List Loc) (ls : Array Slot), lv_has ls nL (pv_l (pv_ad base b) 0 L) → va_P D pv_cl (pv_w ty base b M) H → va_S (fun q => base ≤ q) s.heap H locs →
  W p l e R s m args below meth c H locs cells slots (Qf below args s) (F0 m pc ls (st.map (pv_tr (pv_ad base b))))
variable {l : Launch} {D : va_G} {ty : Nat → ClassId} {base b : Nat} {cc : ByteArray} {nL : Nat} {own : String} {ret : Option FieldType} {nm : String} {R : Room} {Ex : State → Prop} {Qf : List Frame → Array Value → State → State → Prop} {cells slots pc : Nat} {L : List (Option Value)} {st : List Value} {M : List va_E}

theorem pv_iconst {n : Int} (hd : decode cc pc = .ok (.iconst n, 1)) (v : Int32) (hv : Int32.ofInt n = v) (k : pv_V l D ty base b cc nL own ret nm R Ex Qf cells slots (pc + 1) L (.int v :: st) M) : pv_V l D ty base b cc nL own ret nm R Ex Qf cells slots pc L (st) M :=
  fun p e s m args below meth c C H locs ls hl hP hS => lv_iconst C.1.1 C.1.2.1 hd hv (k p e s m args below meth c C H locs ls hl hP hS)
theorem pv_bipush {n : Int} (hd : decode cc pc = .ok (.bipush n, 2)) (v : Int32) (hv : (Int8.ofInt n).toInt32 = v) (k : pv_V l D ty base b cc nL own ret nm R Ex Qf cells slots (pc + 2) L (.int v :: st) M) : pv_V l D ty base b cc nL own ret nm R Ex Qf cells slots pc L (st) M :=
  fun p e s m args below meth c C H locs ls hl hP hS => lv_bipush C.1.1 C.1.2.1 hd hv (k p e s m args below meth c C H locs ls hl hP hS)
theorem pv_sipush {n : Int} (hd : decode cc pc = .ok (.sipush n, 3)) (v : Int32) (hv : (Int16.ofInt n).toInt32 = v) (k : pv_V l D ty base b cc nL own ret nm R Ex Qf cells slots (pc + 3) L (.int v :: st) M) : pv_V l D ty base b cc nL own ret nm R Ex Qf cells slots pc L (st) M :=
  fun p e s m args below meth c C H locs ls hl hP hS => lv_sipush C.1.1 C.1.2.1 hd hv (k p e s m args below meth c C H locs ls hl hP hS)
theorem pv_lconst {n : Fin 2} (hd : decode cc pc = .ok (.lconst n, 1)) (v : Int64) (hv : Int64.ofNat (n : Nat) = v) (k : pv_V l D ty base b cc nL own ret nm R Ex Qf cells slots (pc + 1) L (.long v :: st) M) : pv_V l D ty base b cc nL own ret nm R Ex Qf cells slots pc L (st) M :=
  fun p e s m args below meth c C H locs ls hl hP hS => lv_lconst C.1.1 C.1.2.1 hd hv (k p e s m args below meth c C H locs ls hl hP hS)
theorem pv_ldc2 {i : Nat} {v : Int64} (hd : decode cc pc = .ok (.ldc2_w i, 3)) (hw : Cond.constantLong own i v ∈ pv_T) (k : pv_V l D ty base b cc nL own ret nm R Ex Qf cells slots (pc + 3) L (.long v :: st) M) : pv_V l D ty base b cc nL own ret nm R Ex Qf cells slots pc L (st) M :=
  fun p e s m args below meth c C H locs ls hl hP hS => lv_ldc2 C.1.1 C.1.2.1 C.1.2.2.2.1 (C.1.2.2.2.2 _ hw) hd (k p e s m args below meth c C H locs ls hl hP hS)
theorem pv_null (hd : decode cc pc = .ok (.aconst_null, 1)) (k : pv_V l D ty base b cc nL own ret nm R Ex Qf cells slots (pc + 1) L (.null :: st) M) : pv_V l D ty base b cc nL own ret nm R Ex Qf cells slots pc L (st) M :=
  fun p e s m args below meth c C H locs ls hl hP hS => lv_null C.1.1 C.1.2.1 hd (k p e s m args below meth c C H locs ls hl hP hS)
theorem pv_iload_n {x : Int32} {j : Fin 4} {i : Nat} (hd : decode cc pc = .ok (.iload_n j, 1)) (hi : (j : Nat) = i) (hL : L[i]? = some (some (.int x))) (k : pv_V l D ty base b cc nL own ret nm R Ex Qf cells slots (pc + 1) L (.int x :: st) M) : pv_V l D ty base b cc nL own ret nm R Ex Qf cells slots pc L (st) M :=
  fun p e s m args below meth c C H locs ls hl hP hS => lv_iload_n C.1.1 C.1.2.1 hd hi (pv_at hl hL) (k p e s m args below meth c C H locs ls hl hP hS)
theorem pv_iload {x : Int32} {i : Nat} (hd : decode cc pc = .ok (.iload i, 2)) (hL : L[i]? = some (some (.int x))) (k : pv_V l D ty base b cc nL own ret nm R Ex Qf cells slots (pc + 2) L (.int x :: st) M) : pv_V l D ty base b cc nL own ret nm R Ex Qf cells slots pc L (st) M :=
  fun p e s m args below meth c C H locs ls hl hP hS => lv_iload C.1.1 C.1.2.1 hd (pv_at hl hL) (k p e s m args below meth c C H locs ls hl hP hS)
theorem pv_lload_n {x : Int64} {j : Fin 4} {i : Nat} (hd : decode cc pc = .ok (.lload_n j, 1)) (hi : (j : Nat) = i) (hL : L[i]? = some (some (.long x))) (k : pv_V l D ty base b cc nL own ret nm R Ex Qf cells slots (pc + 1) L (.long x :: st) M) : pv_V l D ty base b cc nL own ret nm R Ex Qf cells slots pc L (st) M :=
  fun p e s m args below meth c C H locs ls hl hP hS => lv_lload_n C.1.1 C.1.2.1 hd hi (pv_at hl hL) (k p e s m args below meth c C H locs ls hl hP hS)
theorem pv_lload {x : Int64} {i : Nat} (hd : decode cc pc = .ok (.lload i, 2)) (hL : L[i]? = some (some (.long x))) (k : pv_V l D ty base b cc nL own ret nm R Ex Qf cells slots (pc + 2) L (.long x :: st) M) : pv_V l D ty base b cc nL own ret nm R Ex Qf cells slots pc L (st) M :=
  fun p e s m args below meth c C H locs ls hl hP hS => lv_lload C.1.1 C.1.2.1 hd (pv_at hl hL) (k p e s m args below meth c C H locs ls hl hP hS)
theorem pv_aload_n {x : Nat} {j : Fin 4} {i : Nat} (hd : decode cc pc = .ok (.aload_n j, 1)) (hi : (j : Nat) = i) (hL : L[i]? = some (some (.ref x))) (k : pv_V l D ty base b cc nL own ret nm R Ex Qf cells slots (pc + 1) L (.ref x :: st) M) : pv_V l D ty base b cc nL own ret nm R Ex Qf cells slots pc L (st) M :=
  fun p e s m args below meth c C H locs ls hl hP hS => lv_aload_n C.1.1 C.1.2.1 hd hi (pv_at hl hL) (k p e s m args below meth c C H locs ls hl hP hS)
theorem pv_aload {x : Nat} {i : Nat} (hd : decode cc pc = .ok (.aload i, 2)) (hL : L[i]? = some (some (.ref x))) (k : pv_V l D ty base b cc nL own ret nm R Ex Qf cells slots (pc + 2) L (.ref x :: st) M) : pv_V l D ty base b cc nL own ret nm R Ex Qf cells slots pc L (st) M :=
  fun p e s m args below meth c C H locs ls hl hP hS => lv_aload C.1.1 C.1.2.1 hd (pv_at hl hL) (k p e s m args below meth c C H locs ls hl hP hS)
theorem pv_a0load_n {j : Fin 4} {i : Nat} (hd : decode cc pc = .ok (.aload_n j, 1)) (hi : (j : Nat) = i) (hL : L[i]? = some (some (.null))) (k : pv_V l D ty base b cc nL own ret nm R Ex Qf cells slots (pc + 1) L (.null :: st) M) : pv_V l D ty base b cc nL own ret nm R Ex Qf cells slots pc L (st) M :=
  fun p e s m args below meth c C H locs ls hl hP hS => lv_aload_nN C.1.1 C.1.2.1 hd hi (pv_at hl hL) (k p e s m args below meth c C H locs ls hl hP hS)
theorem pv_a0load {i : Nat} (hd : decode cc pc = .ok (.aload i, 2)) (hL : L[i]? = some (some (.null))) (k : pv_V l D ty base b cc nL own ret nm R Ex Qf cells slots (pc + 2) L (.null :: st) M) : pv_V l D ty base b cc nL own ret nm R Ex Qf cells slots pc L (st) M :=
  fun p e s m args below meth c C H locs ls hl hP hS => lv_aloadN C.1.1 C.1.2.1 hd (pv_at hl hL) (k p e s m args below meth c C H locs ls hl hP hS)
theorem pv_istore_n {x : Int32} {j : Fin 4} {i : Nat} (hd : decode cc pc = .ok (.istore_n j, 1)) (hij : (j : Nat) = i) (hn : pv_n2 L i = true) (hi : i < L.length) (hnL : i < nL) (k : pv_V l D ty base b cc nL own ret nm R Ex Qf cells slots (pc + 1) (L.set i (some (.int x))) (st) M) : pv_V l D ty base b cc nL own ret nm R Ex Qf cells slots pc L (.int x :: st) M :=
  fun p e s m args below meth c C H locs ls hl hP hS => lv_istore_n C.1.1 C.1.2.1 hd hij hl hnL rfl (fun ls hl1 => k p e s m args below meth c C H locs ls (pv_keep1 (v := .int x) rfl hn hi hl1) hP hS)
theorem pv_istore {x : Int32} {i : Nat} (hd : decode cc pc = .ok (.istore i, 2)) (hn : pv_n2 L i = true) (hi : i < L.length) (hnL : i < nL) (k : pv_V l D ty base b cc nL own ret nm R Ex Qf cells slots (pc + 2) (L.set i (some (.int x))) (st) M) : pv_V l D ty base b cc nL own ret nm R Ex Qf cells slots pc L (.int x :: st) M :=
  fun p e s m args below meth c C H locs ls hl hP hS => lv_istore C.1.1 C.1.2.1 hd hl hnL rfl (fun ls hl1 => k p e s m args below meth c C H locs ls (pv_keep1 (v := .int x) rfl hn hi hl1) hP hS)
theorem pv_astore_n {x : Nat} {j : Fin 4} {i : Nat} (hd : decode cc pc = .ok (.astore_n j, 1)) (hij : (j : Nat) = i) (hn : pv_n2 L i = true) (hi : i < L.length) (hnL : i < nL) (k : pv_V l D ty base b cc nL own ret nm R Ex Qf cells slots (pc + 1) (L.set i (some (.ref x))) (st) M) : pv_V l D ty base b cc nL own ret nm R Ex Qf cells slots pc L (.ref x :: st) M :=
  fun p e s m args below meth c C H locs ls hl hP hS => lv_astore_n C.1.1 C.1.2.1 hd hij hl hnL rfl (fun ls hl1 => k p e s m args below meth c C H locs ls (pv_keep1 (v := .ref x) rfl hn hi hl1) hP hS)
theorem pv_astore {x : Nat} {i : Nat} (hd : decode cc pc = .ok (.astore i, 2)) (hn : pv_n2 L i = true) (hi : i < L.length) (hnL : i < nL) (k : pv_V l D ty base b cc nL own ret nm R Ex Qf cells slots (pc + 2) (L.set i (some (.ref x))) (st) M) : pv_V l D ty base b cc nL own ret nm R Ex Qf cells slots pc L (.ref x :: st) M :=
  fun p e s m args below meth c C H locs ls hl hP hS => lv_astore C.1.1 C.1.2.1 hd hl hnL rfl (fun ls hl1 => k p e s m args below meth c C H locs ls (pv_keep1 (v := .ref x) rfl hn hi hl1) hP hS)
theorem pv_a0store_n {j : Fin 4} {i : Nat} (hd : decode cc pc = .ok (.astore_n j, 1)) (hij : (j : Nat) = i) (hn : pv_n2 L i = true) (hi : i < L.length) (hnL : i < nL) (k : pv_V l D ty base b cc nL own ret nm R Ex Qf cells slots (pc + 1) (L.set i (some (.null))) (st) M) : pv_V l D ty base b cc nL own ret nm R Ex Qf cells slots pc L (.null :: st) M :=
  fun p e s m args below meth c C H locs ls hl hP hS => lv_astore_nN C.1.1 C.1.2.1 hd hij hl hnL rfl (fun ls hl1 => k p e s m args below meth c C H locs ls (pv_keep1 (v := .null) rfl hn hi hl1) hP hS)
theorem pv_a0store {i : Nat} (hd : decode cc pc = .ok (.astore i, 2)) (hn : pv_n2 L i = true) (hi : i < L.length) (hnL : i < nL) (k : pv_V l D ty base b cc nL own ret nm R Ex Qf cells slots (pc + 2) (L.set i (some (.null))) (st) M) : pv_V l D ty base b cc nL own ret nm R Ex Qf cells slots pc L (.null :: st) M :=
  fun p e s m args below meth c C H locs ls hl hP hS => lv_astoreN C.1.1 C.1.2.1 hd hl hnL rfl (fun ls hl1 => k p e s m args below meth c C H locs ls (pv_keep1 (v := .null) rfl hn hi hl1) hP hS)
theorem pv_lstore_n {x : Int64} {j : Fin 4} {i : Nat} (hd : decode cc pc = .ok (.lstore_n j, 1)) (hij : (j : Nat) = i) (hn : pv_n2 L i = true) (hi : i < L.length) (hs : ∀ w, L[i + 1]? ≠ some (some w)) (hnL : i + 1 < nL) (k : pv_V l D ty base b cc nL own ret nm R Ex Qf cells slots (pc + 1) (L.set i (some (.long x))) (st) M) : pv_V l D ty base b cc nL own ret nm R Ex Qf cells slots pc L (.long x :: st) M :=
  fun p e s m args below meth c C H locs ls hl hP hS => lv_lstore_n C.1.1 C.1.2.1 hd hij hl hnL rfl (fun ls hl1 => k p e s m args below meth c C H locs ls (pv_keep2 hn hi hs hl1) hP hS)
theorem pv_iinc {i : Nat} {n : Int} {x : Int32} (hd : decode cc pc = .ok (.iinc i n, 3)) (v : Int32) (hL : L[i]? = some (some (.int x))) (hv : x + Int32.ofInt n = v) (hn : pv_n2 L i = true) (hi : i < L.length) (hnL : i < nL) (k : pv_V l D ty base b cc nL own ret nm R Ex Qf cells slots (pc + 3) (L.set i (some (.int v))) st M) : pv_V l D ty base b cc nL own ret nm R Ex Qf cells slots pc L st M := by
  intro p e s m args below meth c C H locs ls hl hP hS
  obtain ⟨q, hq⟩ := List.getElem?_of_mem (pv_l_in (ad := pv_ad base b) L 0 i _ hL)
  rw [Nat.zero_add] at hq
  exact lv_iinc C.1.1 C.1.2.1 hd hl hq hv hnL rfl (fun ls hl1 => k p e s m args below meth c C H locs ls (pv_keep1 (v := .int v) rfl hn hi hl1) hP hS)
theorem pv_ist0 {x : Int32} {a0 : Option Value} {t : List (Option Value)} (hd : decode cc pc = .ok (.istore_n 0, 1)) (hn : pv_n2 (a0 :: t) 0 = true) (hnL : 0 < nL) (k : pv_V l D ty base b cc nL own ret nm R Ex Qf cells slots (pc + 1) (some (.int x) :: t) st M) : pv_V l D ty base b cc nL own ret nm R Ex Qf cells slots pc (a0 :: t) (.int x :: st) M := pv_istore_n (i := 0) hd rfl hn (by simp) hnL k
theorem pv_ast0 {x : Nat} {a0 : Option Value} {t : List (Option Value)} (hd : decode cc pc = .ok (.astore_n 0, 1)) (hn : pv_n2 (a0 :: t) 0 = true) (hnL : 0 < nL) (k : pv_V l D ty base b cc nL own ret nm R Ex Qf cells slots (pc + 1) (some (.ref x) :: t) st M) : pv_V l D ty base b cc nL own ret nm R Ex Qf cells slots pc (a0 :: t) (.ref x :: st) M := pv_astore_n (i := 0) hd rfl hn (by simp) hnL k
theorem pv_a0st0  {a0 : Option Value} {t : List (Option Value)} (hd : decode cc pc = .ok (.astore_n 0, 1)) (hn : pv_n2 (a0 :: t) 0 = true) (hnL : 0 < nL) (k : pv_V l D ty base b cc nL own ret nm R Ex Qf cells slots (pc + 1) (some (.null) :: t) st M) : pv_V l D ty base b cc nL own ret nm R Ex Qf cells slots pc (a0 :: t) (.null :: st) M := pv_a0store_n (i := 0) hd rfl hn (by simp) hnL k
theorem pv_inc0 {x : Nat} {t : List (Option Value)} (hd : decode cc pc = .ok (.iinc 0 1, 3)) (hn : pv_n2 (some (.int (nI x)) :: t) 0 = true) (hnL : 0 < nL) (k : pv_V l D ty base b cc nL own ret nm R Ex Qf cells slots (pc + 3) (some (.int (nI (x + 1))) :: t) st M) : pv_V l D ty base b cc nL own ret nm R Ex Qf cells slots pc (some (.int (nI x)) :: t) st M := pv_iinc hd (nI (x + 1)) rfl (nI_succ x).symm hn (by simp) hnL k
theorem pv_ist1 {x : Int32} {a0 a1 : Option Value} {t : List (Option Value)} (hd : decode cc pc = .ok (.istore_n 1, 1)) (hn : pv_n2 (a0 :: a1 :: t) 1 = true) (hnL : 1 < nL) (k : pv_V l D ty base b cc nL own ret nm R Ex Qf cells slots (pc + 1) (a0 :: some (.int x) :: t) st M) : pv_V l D ty base b cc nL own ret nm R Ex Qf cells slots pc (a0 :: a1 :: t) (.int x :: st) M := pv_istore_n (i := 1) hd rfl hn (by simp) hnL k
theorem pv_ast1 {x : Nat} {a0 a1 : Option Value} {t : List (Option Value)} (hd : decode cc pc = .ok (.astore_n 1, 1)) (hn : pv_n2 (a0 :: a1 :: t) 1 = true) (hnL : 1 < nL) (k : pv_V l D ty base b cc nL own ret nm R Ex Qf cells slots (pc + 1) (a0 :: some (.ref x) :: t) st M) : pv_V l D ty base b cc nL own ret nm R Ex Qf cells slots pc (a0 :: a1 :: t) (.ref x :: st) M := pv_astore_n (i := 1) hd rfl hn (by simp) hnL k
theorem pv_a0st1  {a0 a1 : Option Value} {t : List (Option Value)} (hd : decode cc pc = .ok (.astore_n 1, 1)) (hn : pv_n2 (a0 :: a1 :: t) 1 = true) (hnL : 1 < nL) (k : pv_V l D ty base b cc nL own ret nm R Ex Qf cells slots (pc + 1) (a0 :: some (.null) :: t) st M) : pv_V l D ty base b cc nL own ret nm R Ex Qf cells slots pc (a0 :: a1 :: t) (.null :: st) M := pv_a0store_n (i := 1) hd rfl hn (by simp) hnL k
theorem pv_inc1 {x : Nat} {a0 : Option Value} {t : List (Option Value)} (hd : decode cc pc = .ok (.iinc 1 1, 3)) (hn : pv_n2 (a0 :: some (.int (nI x)) :: t) 1 = true) (hnL : 1 < nL) (k : pv_V l D ty base b cc nL own ret nm R Ex Qf cells slots (pc + 3) (a0 :: some (.int (nI (x + 1))) :: t) st M) : pv_V l D ty base b cc nL own ret nm R Ex Qf cells slots pc (a0 :: some (.int (nI x)) :: t) st M := pv_iinc hd (nI (x + 1)) rfl (nI_succ x).symm hn (by simp) hnL k
theorem pv_ist2 {x : Int32} {a0 a1 a2 : Option Value} {t : List (Option Value)} (hd : decode cc pc = .ok (.istore_n 2, 1)) (hn : pv_n2 (a0 :: a1 :: a2 :: t) 2 = true) (hnL : 2 < nL) (k : pv_V l D ty base b cc nL own ret nm R Ex Qf cells slots (pc + 1) (a0 :: a1 :: some (.int x) :: t) st M) : pv_V l D ty base b cc nL own ret nm R Ex Qf cells slots pc (a0 :: a1 :: a2 :: t) (.int x :: st) M := pv_istore_n (i := 2) hd rfl hn (by simp) hnL k
theorem pv_ast2 {x : Nat} {a0 a1 a2 : Option Value} {t : List (Option Value)} (hd : decode cc pc = .ok (.astore_n 2, 1)) (hn : pv_n2 (a0 :: a1 :: a2 :: t) 2 = true) (hnL : 2 < nL) (k : pv_V l D ty base b cc nL own ret nm R Ex Qf cells slots (pc + 1) (a0 :: a1 :: some (.ref x) :: t) st M) : pv_V l D ty base b cc nL own ret nm R Ex Qf cells slots pc (a0 :: a1 :: a2 :: t) (.ref x :: st) M := pv_astore_n (i := 2) hd rfl hn (by simp) hnL k
theorem pv_a0st2  {a0 a1 a2 : Option Value} {t : List (Option Value)} (hd : decode cc pc = .ok (.astore_n 2, 1)) (hn : pv_n2 (a0 :: a1 :: a2 :: t) 2 = true) (hnL : 2 < nL) (k : pv_V l D ty base b cc nL own ret nm R Ex Qf cells slots (pc + 1) (a0 :: a1 :: some (.null) :: t) st M) : pv_V l D ty base b cc nL own ret nm R Ex Qf cells slots pc (a0 :: a1 :: a2 :: t) (.null :: st) M := pv_a0store_n (i := 2) hd rfl hn (by simp) hnL k
theorem pv_inc2 {x : Nat} {a0 a1 : Option Value} {t : List (Option Value)} (hd : decode cc pc = .ok (.iinc 2 1, 3)) (hn : pv_n2 (a0 :: a1 :: some (.int (nI x)) :: t) 2 = true) (hnL : 2 < nL) (k : pv_V l D ty base b cc nL own ret nm R Ex Qf cells slots (pc + 3) (a0 :: a1 :: some (.int (nI (x + 1))) :: t) st M) : pv_V l D ty base b cc nL own ret nm R Ex Qf cells slots pc (a0 :: a1 :: some (.int (nI x)) :: t) st M := pv_iinc hd (nI (x + 1)) rfl (nI_succ x).symm hn (by simp) hnL k
theorem pv_ist3 {x : Int32} {a0 a1 a2 a3 : Option Value} {t : List (Option Value)} (hd : decode cc pc = .ok (.istore_n 3, 1)) (hn : pv_n2 (a0 :: a1 :: a2 :: a3 :: t) 3 = true) (hnL : 3 < nL) (k : pv_V l D ty base b cc nL own ret nm R Ex Qf cells slots (pc + 1) (a0 :: a1 :: a2 :: some (.int x) :: t) st M) : pv_V l D ty base b cc nL own ret nm R Ex Qf cells slots pc (a0 :: a1 :: a2 :: a3 :: t) (.int x :: st) M := pv_istore_n (i := 3) hd rfl hn (by simp) hnL k
theorem pv_ast3 {x : Nat} {a0 a1 a2 a3 : Option Value} {t : List (Option Value)} (hd : decode cc pc = .ok (.astore_n 3, 1)) (hn : pv_n2 (a0 :: a1 :: a2 :: a3 :: t) 3 = true) (hnL : 3 < nL) (k : pv_V l D ty base b cc nL own ret nm R Ex Qf cells slots (pc + 1) (a0 :: a1 :: a2 :: some (.ref x) :: t) st M) : pv_V l D ty base b cc nL own ret nm R Ex Qf cells slots pc (a0 :: a1 :: a2 :: a3 :: t) (.ref x :: st) M := pv_astore_n (i := 3) hd rfl hn (by simp) hnL k
theorem pv_a0st3  {a0 a1 a2 a3 : Option Value} {t : List (Option Value)} (hd : decode cc pc = .ok (.astore_n 3, 1)) (hn : pv_n2 (a0 :: a1 :: a2 :: a3 :: t) 3 = true) (hnL : 3 < nL) (k : pv_V l D ty base b cc nL own ret nm R Ex Qf cells slots (pc + 1) (a0 :: a1 :: a2 :: some (.null) :: t) st M) : pv_V l D ty base b cc nL own ret nm R Ex Qf cells slots pc (a0 :: a1 :: a2 :: a3 :: t) (.null :: st) M := pv_a0store_n (i := 3) hd rfl hn (by simp) hnL k
theorem pv_inc3 {x : Nat} {a0 a1 a2 : Option Value} {t : List (Option Value)} (hd : decode cc pc = .ok (.iinc 3 1, 3)) (hn : pv_n2 (a0 :: a1 :: a2 :: some (.int (nI x)) :: t) 3 = true) (hnL : 3 < nL) (k : pv_V l D ty base b cc nL own ret nm R Ex Qf cells slots (pc + 3) (a0 :: a1 :: a2 :: some (.int (nI (x + 1))) :: t) st M) : pv_V l D ty base b cc nL own ret nm R Ex Qf cells slots pc (a0 :: a1 :: a2 :: some (.int (nI x)) :: t) st M := pv_iinc hd (nI (x + 1)) rfl (nI_succ x).symm hn (by simp) hnL k
theorem pv_ist4 {x : Int32} {a0 a1 a2 a3 a4 : Option Value} {t : List (Option Value)} (hd : decode cc pc = .ok (.istore 4, 2)) (hn : pv_n2 (a0 :: a1 :: a2 :: a3 :: a4 :: t) 4 = true) (hnL : 4 < nL) (k : pv_V l D ty base b cc nL own ret nm R Ex Qf cells slots (pc + 2) (a0 :: a1 :: a2 :: a3 :: some (.int x) :: t) st M) : pv_V l D ty base b cc nL own ret nm R Ex Qf cells slots pc (a0 :: a1 :: a2 :: a3 :: a4 :: t) (.int x :: st) M := pv_istore (i := 4) hd hn (by simp) hnL k
theorem pv_ast4 {x : Nat} {a0 a1 a2 a3 a4 : Option Value} {t : List (Option Value)} (hd : decode cc pc = .ok (.astore 4, 2)) (hn : pv_n2 (a0 :: a1 :: a2 :: a3 :: a4 :: t) 4 = true) (hnL : 4 < nL) (k : pv_V l D ty base b cc nL own ret nm R Ex Qf cells slots (pc + 2) (a0 :: a1 :: a2 :: a3 :: some (.ref x) :: t) st M) : pv_V l D ty base b cc nL own ret nm R Ex Qf cells slots pc (a0 :: a1 :: a2 :: a3 :: a4 :: t) (.ref x :: st) M := pv_astore (i := 4) hd hn (by simp) hnL k
theorem pv_a0st4  {a0 a1 a2 a3 a4 : Option Value} {t : List (Option Value)} (hd : decode cc pc = .ok (.astore 4, 2)) (hn : pv_n2 (a0 :: a1 :: a2 :: a3 :: a4 :: t) 4 = true) (hnL : 4 < nL) (k : pv_V l D ty base b cc nL own ret nm R Ex Qf cells slots (pc + 2) (a0 :: a1 :: a2 :: a3 :: some (.null) :: t) st M) : pv_V l D ty base b cc nL own ret nm R Ex Qf cells slots pc (a0 :: a1 :: a2 :: a3 :: a4 :: t) (.null :: st) M := pv_a0store (i := 4) hd hn (by simp) hnL k
theorem pv_inc4 {x : Nat} {a0 a1 a2 a3 : Option Value} {t : List (Option Value)} (hd : decode cc pc = .ok (.iinc 4 1, 3)) (hn : pv_n2 (a0 :: a1 :: a2 :: a3 :: some (.int (nI x)) :: t) 4 = true) (hnL : 4 < nL) (k : pv_V l D ty base b cc nL own ret nm R Ex Qf cells slots (pc + 3) (a0 :: a1 :: a2 :: a3 :: some (.int (nI (x + 1))) :: t) st M) : pv_V l D ty base b cc nL own ret nm R Ex Qf cells slots pc (a0 :: a1 :: a2 :: a3 :: some (.int (nI x)) :: t) st M := pv_iinc hd (nI (x + 1)) rfl (nI_succ x).symm hn (by simp) hnL k
theorem pv_ist5 {x : Int32} {a0 a1 a2 a3 a4 a5 : Option Value} {t : List (Option Value)} (hd : decode cc pc = .ok (.istore 5, 2)) (hn : pv_n2 (a0 :: a1 :: a2 :: a3 :: a4 :: a5 :: t) 5 = true) (hnL : 5 < nL) (k : pv_V l D ty base b cc nL own ret nm R Ex Qf cells slots (pc + 2) (a0 :: a1 :: a2 :: a3 :: a4 :: some (.int x) :: t) st M) : pv_V l D ty base b cc nL own ret nm R Ex Qf cells slots pc (a0 :: a1 :: a2 :: a3 :: a4 :: a5 :: t) (.int x :: st) M := pv_istore (i := 5) hd hn (by simp) hnL k
theorem pv_ast5 {x : Nat} {a0 a1 a2 a3 a4 a5 : Option Value} {t : List (Option Value)} (hd : decode cc pc = .ok (.astore 5, 2)) (hn : pv_n2 (a0 :: a1 :: a2 :: a3 :: a4 :: a5 :: t) 5 = true) (hnL : 5 < nL) (k : pv_V l D ty base b cc nL own ret nm R Ex Qf cells slots (pc + 2) (a0 :: a1 :: a2 :: a3 :: a4 :: some (.ref x) :: t) st M) : pv_V l D ty base b cc nL own ret nm R Ex Qf cells slots pc (a0 :: a1 :: a2 :: a3 :: a4 :: a5 :: t) (.ref x :: st) M := pv_astore (i := 5) hd hn (by simp) hnL k
theorem pv_a0st5  {a0 a1 a2 a3 a4 a5 : Option Value} {t : List (Option Value)} (hd : decode cc pc = .ok (.astore 5, 2)) (hn : pv_n2 (a0 :: a1 :: a2 :: a3 :: a4 :: a5 :: t) 5 = true) (hnL : 5 < nL) (k : pv_V l D ty base b cc nL own ret nm R Ex Qf cells slots (pc + 2) (a0 :: a1 :: a2 :: a3 :: a4 :: some (.null) :: t) st M) : pv_V l D ty base b cc nL own ret nm R Ex Qf cells slots pc (a0 :: a1 :: a2 :: a3 :: a4 :: a5 :: t) (.null :: st) M := pv_a0store (i := 5) hd hn (by simp) hnL k
theorem pv_inc5 {x : Nat} {a0 a1 a2 a3 a4 : Option Value} {t : List (Option Value)} (hd : decode cc pc = .ok (.iinc 5 1, 3)) (hn : pv_n2 (a0 :: a1 :: a2 :: a3 :: a4 :: some (.int (nI x)) :: t) 5 = true) (hnL : 5 < nL) (k : pv_V l D ty base b cc nL own ret nm R Ex Qf cells slots (pc + 3) (a0 :: a1 :: a2 :: a3 :: a4 :: some (.int (nI (x + 1))) :: t) st M) : pv_V l D ty base b cc nL own ret nm R Ex Qf cells slots pc (a0 :: a1 :: a2 :: a3 :: a4 :: some (.int (nI x)) :: t) st M := pv_iinc hd (nI (x + 1)) rfl (nI_succ x).symm hn (by simp) hnL k
theorem pv_ist6 {x : Int32} {a0 a1 a2 a3 a4 a5 a6 : Option Value} {t : List (Option Value)} (hd : decode cc pc = .ok (.istore 6, 2)) (hn : pv_n2 (a0 :: a1 :: a2 :: a3 :: a4 :: a5 :: a6 :: t) 6 = true) (hnL : 6 < nL) (k : pv_V l D ty base b cc nL own ret nm R Ex Qf cells slots (pc + 2) (a0 :: a1 :: a2 :: a3 :: a4 :: a5 :: some (.int x) :: t) st M) : pv_V l D ty base b cc nL own ret nm R Ex Qf cells slots pc (a0 :: a1 :: a2 :: a3 :: a4 :: a5 :: a6 :: t) (.int x :: st) M := pv_istore (i := 6) hd hn (by simp) hnL k
theorem pv_ast6 {x : Nat} {a0 a1 a2 a3 a4 a5 a6 : Option Value} {t : List (Option Value)} (hd : decode cc pc = .ok (.astore 6, 2)) (hn : pv_n2 (a0 :: a1 :: a2 :: a3 :: a4 :: a5 :: a6 :: t) 6 = true) (hnL : 6 < nL) (k : pv_V l D ty base b cc nL own ret nm R Ex Qf cells slots (pc + 2) (a0 :: a1 :: a2 :: a3 :: a4 :: a5 :: some (.ref x) :: t) st M) : pv_V l D ty base b cc nL own ret nm R Ex Qf cells slots pc (a0 :: a1 :: a2 :: a3 :: a4 :: a5 :: a6 :: t) (.ref x :: st) M := pv_astore (i := 6) hd hn (by simp) hnL k
theorem pv_a0st6  {a0 a1 a2 a3 a4 a5 a6 : Option Value} {t : List (Option Value)} (hd : decode cc pc = .ok (.astore 6, 2)) (hn : pv_n2 (a0 :: a1 :: a2 :: a3 :: a4 :: a5 :: a6 :: t) 6 = true) (hnL : 6 < nL) (k : pv_V l D ty base b cc nL own ret nm R Ex Qf cells slots (pc + 2) (a0 :: a1 :: a2 :: a3 :: a4 :: a5 :: some (.null) :: t) st M) : pv_V l D ty base b cc nL own ret nm R Ex Qf cells slots pc (a0 :: a1 :: a2 :: a3 :: a4 :: a5 :: a6 :: t) (.null :: st) M := pv_a0store (i := 6) hd hn (by simp) hnL k
theorem pv_inc6 {x : Nat} {a0 a1 a2 a3 a4 a5 : Option Value} {t : List (Option Value)} (hd : decode cc pc = .ok (.iinc 6 1, 3)) (hn : pv_n2 (a0 :: a1 :: a2 :: a3 :: a4 :: a5 :: some (.int (nI x)) :: t) 6 = true) (hnL : 6 < nL) (k : pv_V l D ty base b cc nL own ret nm R Ex Qf cells slots (pc + 3) (a0 :: a1 :: a2 :: a3 :: a4 :: a5 :: some (.int (nI (x + 1))) :: t) st M) : pv_V l D ty base b cc nL own ret nm R Ex Qf cells slots pc (a0 :: a1 :: a2 :: a3 :: a4 :: a5 :: some (.int (nI x)) :: t) st M := pv_iinc hd (nI (x + 1)) rfl (nI_succ x).symm hn (by simp) hnL k
theorem pv_ist7 {x : Int32} {a0 a1 a2 a3 a4 a5 a6 a7 : Option Value} {t : List (Option Value)} (hd : decode cc pc = .ok (.istore 7, 2)) (hn : pv_n2 (a0 :: a1 :: a2 :: a3 :: a4 :: a5 :: a6 :: a7 :: t) 7 = true) (hnL : 7 < nL) (k : pv_V l D ty base b cc nL own ret nm R Ex Qf cells slots (pc + 2) (a0 :: a1 :: a2 :: a3 :: a4 :: a5 :: a6 :: some (.int x) :: t) st M) : pv_V l D ty base b cc nL own ret nm R Ex Qf cells slots pc (a0 :: a1 :: a2 :: a3 :: a4 :: a5 :: a6 :: a7 :: t) (.int x :: st) M := pv_istore (i := 7) hd hn (by simp) hnL k
theorem pv_ast7 {x : Nat} {a0 a1 a2 a3 a4 a5 a6 a7 : Option Value} {t : List (Option Value)} (hd : decode cc pc = .ok (.astore 7, 2)) (hn : pv_n2 (a0 :: a1 :: a2 :: a3 :: a4 :: a5 :: a6 :: a7 :: t) 7 = true) (hnL : 7 < nL) (k : pv_V l D ty base b cc nL own ret nm R Ex Qf cells slots (pc + 2) (a0 :: a1 :: a2 :: a3 :: a4 :: a5 :: a6 :: some (.ref x) :: t) st M) : pv_V l D ty base b cc nL own ret nm R Ex Qf cells slots pc (a0 :: a1 :: a2 :: a3 :: a4 :: a5 :: a6 :: a7 :: t) (.ref x :: st) M := pv_astore (i := 7) hd hn (by simp) hnL k
theorem pv_a0st7  {a0 a1 a2 a3 a4 a5 a6 a7 : Option Value} {t : List (Option Value)} (hd : decode cc pc = .ok (.astore 7, 2)) (hn : pv_n2 (a0 :: a1 :: a2 :: a3 :: a4 :: a5 :: a6 :: a7 :: t) 7 = true) (hnL : 7 < nL) (k : pv_V l D ty base b cc nL own ret nm R Ex Qf cells slots (pc + 2) (a0 :: a1 :: a2 :: a3 :: a4 :: a5 :: a6 :: some (.null) :: t) st M) : pv_V l D ty base b cc nL own ret nm R Ex Qf cells slots pc (a0 :: a1 :: a2 :: a3 :: a4 :: a5 :: a6 :: a7 :: t) (.null :: st) M := pv_a0store (i := 7) hd hn (by simp) hnL k
theorem pv_inc7 {x : Nat} {a0 a1 a2 a3 a4 a5 a6 : Option Value} {t : List (Option Value)} (hd : decode cc pc = .ok (.iinc 7 1, 3)) (hn : pv_n2 (a0 :: a1 :: a2 :: a3 :: a4 :: a5 :: a6 :: some (.int (nI x)) :: t) 7 = true) (hnL : 7 < nL) (k : pv_V l D ty base b cc nL own ret nm R Ex Qf cells slots (pc + 3) (a0 :: a1 :: a2 :: a3 :: a4 :: a5 :: a6 :: some (.int (nI (x + 1))) :: t) st M) : pv_V l D ty base b cc nL own ret nm R Ex Qf cells slots pc (a0 :: a1 :: a2 :: a3 :: a4 :: a5 :: a6 :: some (.int (nI x)) :: t) st M := pv_iinc hd (nI (x + 1)) rfl (nI_succ x).symm hn (by simp) hnL k
theorem pv_ist8 {x : Int32} {a0 a1 a2 a3 a4 a5 a6 a7 a8 : Option Value} {t : List (Option Value)} (hd : decode cc pc = .ok (.istore 8, 2)) (hn : pv_n2 (a0 :: a1 :: a2 :: a3 :: a4 :: a5 :: a6 :: a7 :: a8 :: t) 8 = true) (hnL : 8 < nL) (k : pv_V l D ty base b cc nL own ret nm R Ex Qf cells slots (pc + 2) (a0 :: a1 :: a2 :: a3 :: a4 :: a5 :: a6 :: a7 :: some (.int x) :: t) st M) : pv_V l D ty base b cc nL own ret nm R Ex Qf cells slots pc (a0 :: a1 :: a2 :: a3 :: a4 :: a5 :: a6 :: a7 :: a8 :: t) (.int x :: st) M := pv_istore (i := 8) hd hn (by simp) hnL k
theorem pv_ast8 {x : Nat} {a0 a1 a2 a3 a4 a5 a6 a7 a8 : Option Value} {t : List (Option Value)} (hd : decode cc pc = .ok (.astore 8, 2)) (hn : pv_n2 (a0 :: a1 :: a2 :: a3 :: a4 :: a5 :: a6 :: a7 :: a8 :: t) 8 = true) (hnL : 8 < nL) (k : pv_V l D ty base b cc nL own ret nm R Ex Qf cells slots (pc + 2) (a0 :: a1 :: a2 :: a3 :: a4 :: a5 :: a6 :: a7 :: some (.ref x) :: t) st M) : pv_V l D ty base b cc nL own ret nm R Ex Qf cells slots pc (a0 :: a1 :: a2 :: a3 :: a4 :: a5 :: a6 :: a7 :: a8 :: t) (.ref x :: st) M := pv_astore (i := 8) hd hn (by simp) hnL k
theorem pv_a0st8  {a0 a1 a2 a3 a4 a5 a6 a7 a8 : Option Value} {t : List (Option Value)} (hd : decode cc pc = .ok (.astore 8, 2)) (hn : pv_n2 (a0 :: a1 :: a2 :: a3 :: a4 :: a5 :: a6 :: a7 :: a8 :: t) 8 = true) (hnL : 8 < nL) (k : pv_V l D ty base b cc nL own ret nm R Ex Qf cells slots (pc + 2) (a0 :: a1 :: a2 :: a3 :: a4 :: a5 :: a6 :: a7 :: some (.null) :: t) st M) : pv_V l D ty base b cc nL own ret nm R Ex Qf cells slots pc (a0 :: a1 :: a2 :: a3 :: a4 :: a5 :: a6 :: a7 :: a8 :: t) (.null :: st) M := pv_a0store (i := 8) hd hn (by simp) hnL k
theorem pv_inc8 {x : Nat} {a0 a1 a2 a3 a4 a5 a6 a7 : Option Value} {t : List (Option Value)} (hd : decode cc pc = .ok (.iinc 8 1, 3)) (hn : pv_n2 (a0 :: a1 :: a2 :: a3 :: a4 :: a5 :: a6 :: a7 :: some (.int (nI x)) :: t) 8 = true) (hnL : 8 < nL) (k : pv_V l D ty base b cc nL own ret nm R Ex Qf cells slots (pc + 3) (a0 :: a1 :: a2 :: a3 :: a4 :: a5 :: a6 :: a7 :: some (.int (nI (x + 1))) :: t) st M) : pv_V l D ty base b cc nL own ret nm R Ex Qf cells slots pc (a0 :: a1 :: a2 :: a3 :: a4 :: a5 :: a6 :: a7 :: some (.int (nI x)) :: t) st M := pv_iinc hd (nI (x + 1)) rfl (nI_succ x).symm hn (by simp) hnL k
theorem pv_ist9 {x : Int32} {a0 a1 a2 a3 a4 a5 a6 a7 a8 a9 : Option Value} {t : List (Option Value)} (hd : decode cc pc = .ok (.istore 9, 2)) (hn : pv_n2 (a0 :: a1 :: a2 :: a3 :: a4 :: a5 :: a6 :: a7 :: a8 :: a9 :: t) 9 = true) (hnL : 9 < nL) (k : pv_V l D ty base b cc nL own ret nm R Ex Qf cells slots (pc + 2) (a0 :: a1 :: a2 :: a3 :: a4 :: a5 :: a6 :: a7 :: a8 :: some (.int x) :: t) st M) : pv_V l D ty base b cc nL own ret nm R Ex Qf cells slots pc (a0 :: a1 :: a2 :: a3 :: a4 :: a5 :: a6 :: a7 :: a8 :: a9 :: t) (.int x :: st) M := pv_istore (i := 9) hd hn (by simp) hnL k
theorem pv_ast9 {x : Nat} {a0 a1 a2 a3 a4 a5 a6 a7 a8 a9 : Option Value} {t : List (Option Value)} (hd : decode cc pc = .ok (.astore 9, 2)) (hn : pv_n2 (a0 :: a1 :: a2 :: a3 :: a4 :: a5 :: a6 :: a7 :: a8 :: a9 :: t) 9 = true) (hnL : 9 < nL) (k : pv_V l D ty base b cc nL own ret nm R Ex Qf cells slots (pc + 2) (a0 :: a1 :: a2 :: a3 :: a4 :: a5 :: a6 :: a7 :: a8 :: some (.ref x) :: t) st M) : pv_V l D ty base b cc nL own ret nm R Ex Qf cells slots pc (a0 :: a1 :: a2 :: a3 :: a4 :: a5 :: a6 :: a7 :: a8 :: a9 :: t) (.ref x :: st) M := pv_astore (i := 9) hd hn (by simp) hnL k
theorem pv_a0st9  {a0 a1 a2 a3 a4 a5 a6 a7 a8 a9 : Option Value} {t : List (Option Value)} (hd : decode cc pc = .ok (.astore 9, 2)) (hn : pv_n2 (a0 :: a1 :: a2 :: a3 :: a4 :: a5 :: a6 :: a7 :: a8 :: a9 :: t) 9 = true) (hnL : 9 < nL) (k : pv_V l D ty base b cc nL own ret nm R Ex Qf cells slots (pc + 2) (a0 :: a1 :: a2 :: a3 :: a4 :: a5 :: a6 :: a7 :: a8 :: some (.null) :: t) st M) : pv_V l D ty base b cc nL own ret nm R Ex Qf cells slots pc (a0 :: a1 :: a2 :: a3 :: a4 :: a5 :: a6 :: a7 :: a8 :: a9 :: t) (.null :: st) M := pv_a0store (i := 9) hd hn (by simp) hnL k
theorem pv_inc9 {x : Nat} {a0 a1 a2 a3 a4 a5 a6 a7 a8 : Option Value} {t : List (Option Value)} (hd : decode cc pc = .ok (.iinc 9 1, 3)) (hn : pv_n2 (a0 :: a1 :: a2 :: a3 :: a4 :: a5 :: a6 :: a7 :: a8 :: some (.int (nI x)) :: t) 9 = true) (hnL : 9 < nL) (k : pv_V l D ty base b cc nL own ret nm R Ex Qf cells slots (pc + 3) (a0 :: a1 :: a2 :: a3 :: a4 :: a5 :: a6 :: a7 :: a8 :: some (.int (nI (x + 1))) :: t) st M) : pv_V l D ty base b cc nL own ret nm R Ex Qf cells slots pc (a0 :: a1 :: a2 :: a3 :: a4 :: a5 :: a6 :: a7 :: a8 :: some (.int (nI x)) :: t) st M := pv_iinc hd (nI (x + 1)) rfl (nI_succ x).symm hn (by simp) hnL k
theorem pv_ist10 {x : Int32} {a0 a1 a2 a3 a4 a5 a6 a7 a8 a9 a10 : Option Value} {t : List (Option Value)} (hd : decode cc pc = .ok (.istore 10, 2)) (hn : pv_n2 (a0 :: a1 :: a2 :: a3 :: a4 :: a5 :: a6 :: a7 :: a8 :: a9 :: a10 :: t) 10 = true) (hnL : 10 < nL) (k : pv_V l D ty base b cc nL own ret nm R Ex Qf cells slots (pc + 2) (a0 :: a1 :: a2 :: a3 :: a4 :: a5 :: a6 :: a7 :: a8 :: a9 :: some (.int x) :: t) st M) : pv_V l D ty base b cc nL own ret nm R Ex Qf cells slots pc (a0 :: a1 :: a2 :: a3 :: a4 :: a5 :: a6 :: a7 :: a8 :: a9 :: a10 :: t) (.int x :: st) M := pv_istore (i := 10) hd hn (by simp) hnL k
theorem pv_ast10 {x : Nat} {a0 a1 a2 a3 a4 a5 a6 a7 a8 a9 a10 : Option Value} {t : List (Option Value)} (hd : decode cc pc = .ok (.astore 10, 2)) (hn : pv_n2 (a0 :: a1 :: a2 :: a3 :: a4 :: a5 :: a6 :: a7 :: a8 :: a9 :: a10 :: t) 10 = true) (hnL : 10 < nL) (k : pv_V l D ty base b cc nL own ret nm R Ex Qf cells slots (pc + 2) (a0 :: a1 :: a2 :: a3 :: a4 :: a5 :: a6 :: a7 :: a8 :: a9 :: some (.ref x) :: t) st M) : pv_V l D ty base b cc nL own ret nm R Ex Qf cells slots pc (a0 :: a1 :: a2 :: a3 :: a4 :: a5 :: a6 :: a7 :: a8 :: a9 :: a10 :: t) (.ref x :: st) M := pv_astore (i := 10) hd hn (by simp) hnL k
theorem pv_a0st10  {a0 a1 a2 a3 a4 a5 a6 a7 a8 a9 a10 : Option Value} {t : List (Option Value)} (hd : decode cc pc = .ok (.astore 10, 2)) (hn : pv_n2 (a0 :: a1 :: a2 :: a3 :: a4 :: a5 :: a6 :: a7 :: a8 :: a9 :: a10 :: t) 10 = true) (hnL : 10 < nL) (k : pv_V l D ty base b cc nL own ret nm R Ex Qf cells slots (pc + 2) (a0 :: a1 :: a2 :: a3 :: a4 :: a5 :: a6 :: a7 :: a8 :: a9 :: some (.null) :: t) st M) : pv_V l D ty base b cc nL own ret nm R Ex Qf cells slots pc (a0 :: a1 :: a2 :: a3 :: a4 :: a5 :: a6 :: a7 :: a8 :: a9 :: a10 :: t) (.null :: st) M := pv_a0store (i := 10) hd hn (by simp) hnL k
theorem pv_inc10 {x : Nat} {a0 a1 a2 a3 a4 a5 a6 a7 a8 a9 : Option Value} {t : List (Option Value)} (hd : decode cc pc = .ok (.iinc 10 1, 3)) (hn : pv_n2 (a0 :: a1 :: a2 :: a3 :: a4 :: a5 :: a6 :: a7 :: a8 :: a9 :: some (.int (nI x)) :: t) 10 = true) (hnL : 10 < nL) (k : pv_V l D ty base b cc nL own ret nm R Ex Qf cells slots (pc + 3) (a0 :: a1 :: a2 :: a3 :: a4 :: a5 :: a6 :: a7 :: a8 :: a9 :: some (.int (nI (x + 1))) :: t) st M) : pv_V l D ty base b cc nL own ret nm R Ex Qf cells slots pc (a0 :: a1 :: a2 :: a3 :: a4 :: a5 :: a6 :: a7 :: a8 :: a9 :: some (.int (nI x)) :: t) st M := pv_iinc hd (nI (x + 1)) rfl (nI_succ x).symm hn (by simp) hnL k
theorem pv_ist11 {x : Int32} {a0 a1 a2 a3 a4 a5 a6 a7 a8 a9 a10 a11 : Option Value} {t : List (Option Value)} (hd : decode cc pc = .ok (.istore 11, 2)) (hn : pv_n2 (a0 :: a1 :: a2 :: a3 :: a4 :: a5 :: a6 :: a7 :: a8 :: a9 :: a10 :: a11 :: t) 11 = true) (hnL : 11 < nL) (k : pv_V l D ty base b cc nL own ret nm R Ex Qf cells slots (pc + 2) (a0 :: a1 :: a2 :: a3 :: a4 :: a5 :: a6 :: a7 :: a8 :: a9 :: a10 :: some (.int x) :: t) st M) : pv_V l D ty base b cc nL own ret nm R Ex Qf cells slots pc (a0 :: a1 :: a2 :: a3 :: a4 :: a5 :: a6 :: a7 :: a8 :: a9 :: a10 :: a11 :: t) (.int x :: st) M := pv_istore (i := 11) hd hn (by simp) hnL k
theorem pv_ast11 {x : Nat} {a0 a1 a2 a3 a4 a5 a6 a7 a8 a9 a10 a11 : Option Value} {t : List (Option Value)} (hd : decode cc pc = .ok (.astore 11, 2)) (hn : pv_n2 (a0 :: a1 :: a2 :: a3 :: a4 :: a5 :: a6 :: a7 :: a8 :: a9 :: a10 :: a11 :: t) 11 = true) (hnL : 11 < nL) (k : pv_V l D ty base b cc nL own ret nm R Ex Qf cells slots (pc + 2) (a0 :: a1 :: a2 :: a3 :: a4 :: a5 :: a6 :: a7 :: a8 :: a9 :: a10 :: some (.ref x) :: t) st M) : pv_V l D ty base b cc nL own ret nm R Ex Qf cells slots pc (a0 :: a1 :: a2 :: a3 :: a4 :: a5 :: a6 :: a7 :: a8 :: a9 :: a10 :: a11 :: t) (.ref x :: st) M := pv_astore (i := 11) hd hn (by simp) hnL k
theorem pv_a0st11  {a0 a1 a2 a3 a4 a5 a6 a7 a8 a9 a10 a11 : Option Value} {t : List (Option Value)} (hd : decode cc pc = .ok (.astore 11, 2)) (hn : pv_n2 (a0 :: a1 :: a2 :: a3 :: a4 :: a5 :: a6 :: a7 :: a8 :: a9 :: a10 :: a11 :: t) 11 = true) (hnL : 11 < nL) (k : pv_V l D ty base b cc nL own ret nm R Ex Qf cells slots (pc + 2) (a0 :: a1 :: a2 :: a3 :: a4 :: a5 :: a6 :: a7 :: a8 :: a9 :: a10 :: some (.null) :: t) st M) : pv_V l D ty base b cc nL own ret nm R Ex Qf cells slots pc (a0 :: a1 :: a2 :: a3 :: a4 :: a5 :: a6 :: a7 :: a8 :: a9 :: a10 :: a11 :: t) (.null :: st) M := pv_a0store (i := 11) hd hn (by simp) hnL k
theorem pv_inc11 {x : Nat} {a0 a1 a2 a3 a4 a5 a6 a7 a8 a9 a10 : Option Value} {t : List (Option Value)} (hd : decode cc pc = .ok (.iinc 11 1, 3)) (hn : pv_n2 (a0 :: a1 :: a2 :: a3 :: a4 :: a5 :: a6 :: a7 :: a8 :: a9 :: a10 :: some (.int (nI x)) :: t) 11 = true) (hnL : 11 < nL) (k : pv_V l D ty base b cc nL own ret nm R Ex Qf cells slots (pc + 3) (a0 :: a1 :: a2 :: a3 :: a4 :: a5 :: a6 :: a7 :: a8 :: a9 :: a10 :: some (.int (nI (x + 1))) :: t) st M) : pv_V l D ty base b cc nL own ret nm R Ex Qf cells slots pc (a0 :: a1 :: a2 :: a3 :: a4 :: a5 :: a6 :: a7 :: a8 :: a9 :: a10 :: some (.int (nI x)) :: t) st M := pv_iinc hd (nI (x + 1)) rfl (nI_succ x).symm hn (by simp) hnL k
theorem pv_ist12 {x : Int32} {a0 a1 a2 a3 a4 a5 a6 a7 a8 a9 a10 a11 a12 : Option Value} {t : List (Option Value)} (hd : decode cc pc = .ok (.istore 12, 2)) (hn : pv_n2 (a0 :: a1 :: a2 :: a3 :: a4 :: a5 :: a6 :: a7 :: a8 :: a9 :: a10 :: a11 :: a12 :: t) 12 = true) (hnL : 12 < nL) (k : pv_V l D ty base b cc nL own ret nm R Ex Qf cells slots (pc + 2) (a0 :: a1 :: a2 :: a3 :: a4 :: a5 :: a6 :: a7 :: a8 :: a9 :: a10 :: a11 :: some (.int x) :: t) st M) : pv_V l D ty base b cc nL own ret nm R Ex Qf cells slots pc (a0 :: a1 :: a2 :: a3 :: a4 :: a5 :: a6 :: a7 :: a8 :: a9 :: a10 :: a11 :: a12 :: t) (.int x :: st) M := pv_istore (i := 12) hd hn (by simp) hnL k
theorem pv_ast12 {x : Nat} {a0 a1 a2 a3 a4 a5 a6 a7 a8 a9 a10 a11 a12 : Option Value} {t : List (Option Value)} (hd : decode cc pc = .ok (.astore 12, 2)) (hn : pv_n2 (a0 :: a1 :: a2 :: a3 :: a4 :: a5 :: a6 :: a7 :: a8 :: a9 :: a10 :: a11 :: a12 :: t) 12 = true) (hnL : 12 < nL) (k : pv_V l D ty base b cc nL own ret nm R Ex Qf cells slots (pc + 2) (a0 :: a1 :: a2 :: a3 :: a4 :: a5 :: a6 :: a7 :: a8 :: a9 :: a10 :: a11 :: some (.ref x) :: t) st M) : pv_V l D ty base b cc nL own ret nm R Ex Qf cells slots pc (a0 :: a1 :: a2 :: a3 :: a4 :: a5 :: a6 :: a7 :: a8 :: a9 :: a10 :: a11 :: a12 :: t) (.ref x :: st) M := pv_astore (i := 12) hd hn (by simp) hnL k
theorem pv_a0st12  {a0 a1 a2 a3 a4 a5 a6 a7 a8 a9 a10 a11 a12 : Option Value} {t : List (Option Value)} (hd : decode cc pc = .ok (.astore 12, 2)) (hn : pv_n2 (a0 :: a1 :: a2 :: a3 :: a4 :: a5 :: a6 :: a7 :: a8 :: a9 :: a10 :: a11 :: a12 :: t) 12 = true) (hnL : 12 < nL) (k : pv_V l D ty base b cc nL own ret nm R Ex Qf cells slots (pc + 2) (a0 :: a1 :: a2 :: a3 :: a4 :: a5 :: a6 :: a7 :: a8 :: a9 :: a10 :: a11 :: some (.null) :: t) st M) : pv_V l D ty base b cc nL own ret nm R Ex Qf cells slots pc (a0 :: a1 :: a2 :: a3 :: a4 :: a5 :: a6 :: a7 :: a8 :: a9 :: a10 :: a11 :: a12 :: t) (.null :: st) M := pv_a0store (i := 12) hd hn (by simp) hnL k
theorem pv_inc12 {x : Nat} {a0 a1 a2 a3 a4 a5 a6 a7 a8 a9 a10 a11 : Option Value} {t : List (Option Value)} (hd : decode cc pc = .ok (.iinc 12 1, 3)) (hn : pv_n2 (a0 :: a1 :: a2 :: a3 :: a4 :: a5 :: a6 :: a7 :: a8 :: a9 :: a10 :: a11 :: some (.int (nI x)) :: t) 12 = true) (hnL : 12 < nL) (k : pv_V l D ty base b cc nL own ret nm R Ex Qf cells slots (pc + 3) (a0 :: a1 :: a2 :: a3 :: a4 :: a5 :: a6 :: a7 :: a8 :: a9 :: a10 :: a11 :: some (.int (nI (x + 1))) :: t) st M) : pv_V l D ty base b cc nL own ret nm R Ex Qf cells slots pc (a0 :: a1 :: a2 :: a3 :: a4 :: a5 :: a6 :: a7 :: a8 :: a9 :: a10 :: a11 :: some (.int (nI x)) :: t) st M := pv_iinc hd (nI (x + 1)) rfl (nI_succ x).symm hn (by simp) hnL k
theorem pv_ist13 {x : Int32} {a0 a1 a2 a3 a4 a5 a6 a7 a8 a9 a10 a11 a12 a13 : Option Value} {t : List (Option Value)} (hd : decode cc pc = .ok (.istore 13, 2)) (hn : pv_n2 (a0 :: a1 :: a2 :: a3 :: a4 :: a5 :: a6 :: a7 :: a8 :: a9 :: a10 :: a11 :: a12 :: a13 :: t) 13 = true) (hnL : 13 < nL) (k : pv_V l D ty base b cc nL own ret nm R Ex Qf cells slots (pc + 2) (a0 :: a1 :: a2 :: a3 :: a4 :: a5 :: a6 :: a7 :: a8 :: a9 :: a10 :: a11 :: a12 :: some (.int x) :: t) st M) : pv_V l D ty base b cc nL own ret nm R Ex Qf cells slots pc (a0 :: a1 :: a2 :: a3 :: a4 :: a5 :: a6 :: a7 :: a8 :: a9 :: a10 :: a11 :: a12 :: a13 :: t) (.int x :: st) M := pv_istore (i := 13) hd hn (by simp) hnL k
theorem pv_ast13 {x : Nat} {a0 a1 a2 a3 a4 a5 a6 a7 a8 a9 a10 a11 a12 a13 : Option Value} {t : List (Option Value)} (hd : decode cc pc = .ok (.astore 13, 2)) (hn : pv_n2 (a0 :: a1 :: a2 :: a3 :: a4 :: a5 :: a6 :: a7 :: a8 :: a9 :: a10 :: a11 :: a12 :: a13 :: t) 13 = true) (hnL : 13 < nL) (k : pv_V l D ty base b cc nL own ret nm R Ex Qf cells slots (pc + 2) (a0 :: a1 :: a2 :: a3 :: a4 :: a5 :: a6 :: a7 :: a8 :: a9 :: a10 :: a11 :: a12 :: some (.ref x) :: t) st M) : pv_V l D ty base b cc nL own ret nm R Ex Qf cells slots pc (a0 :: a1 :: a2 :: a3 :: a4 :: a5 :: a6 :: a7 :: a8 :: a9 :: a10 :: a11 :: a12 :: a13 :: t) (.ref x :: st) M := pv_astore (i := 13) hd hn (by simp) hnL k
theorem pv_a0st13  {a0 a1 a2 a3 a4 a5 a6 a7 a8 a9 a10 a11 a12 a13 : Option Value} {t : List (Option Value)} (hd : decode cc pc = .ok (.astore 13, 2)) (hn : pv_n2 (a0 :: a1 :: a2 :: a3 :: a4 :: a5 :: a6 :: a7 :: a8 :: a9 :: a10 :: a11 :: a12 :: a13 :: t) 13 = true) (hnL : 13 < nL) (k : pv_V l D ty base b cc nL own ret nm R Ex Qf cells slots (pc + 2) (a0 :: a1 :: a2 :: a3 :: a4 :: a5 :: a6 :: a7 :: a8 :: a9 :: a10 :: a11 :: a12 :: some (.null) :: t) st M) : pv_V l D ty base b cc nL own ret nm R Ex Qf cells slots pc (a0 :: a1 :: a2 :: a3 :: a4 :: a5 :: a6 :: a7 :: a8 :: a9 :: a10 :: a11 :: a12 :: a13 :: t) (.null :: st) M := pv_a0store (i := 13) hd hn (by simp) hnL k
theorem pv_inc13 {x : Nat} {a0 a1 a2 a3 a4 a5 a6 a7 a8 a9 a10 a11 a12 : Option Value} {t : List (Option Value)} (hd : decode cc pc = .ok (.iinc 13 1, 3)) (hn : pv_n2 (a0 :: a1 :: a2 :: a3 :: a4 :: a5 :: a6 :: a7 :: a8 :: a9 :: a10 :: a11 :: a12 :: some (.int (nI x)) :: t) 13 = true) (hnL : 13 < nL) (k : pv_V l D ty base b cc nL own ret nm R Ex Qf cells slots (pc + 3) (a0 :: a1 :: a2 :: a3 :: a4 :: a5 :: a6 :: a7 :: a8 :: a9 :: a10 :: a11 :: a12 :: some (.int (nI (x + 1))) :: t) st M) : pv_V l D ty base b cc nL own ret nm R Ex Qf cells slots pc (a0 :: a1 :: a2 :: a3 :: a4 :: a5 :: a6 :: a7 :: a8 :: a9 :: a10 :: a11 :: a12 :: some (.int (nI x)) :: t) st M := pv_iinc hd (nI (x + 1)) rfl (nI_succ x).symm hn (by simp) hnL k
theorem pv_ist14 {x : Int32} {a0 a1 a2 a3 a4 a5 a6 a7 a8 a9 a10 a11 a12 a13 a14 : Option Value} {t : List (Option Value)} (hd : decode cc pc = .ok (.istore 14, 2)) (hn : pv_n2 (a0 :: a1 :: a2 :: a3 :: a4 :: a5 :: a6 :: a7 :: a8 :: a9 :: a10 :: a11 :: a12 :: a13 :: a14 :: t) 14 = true) (hnL : 14 < nL) (k : pv_V l D ty base b cc nL own ret nm R Ex Qf cells slots (pc + 2) (a0 :: a1 :: a2 :: a3 :: a4 :: a5 :: a6 :: a7 :: a8 :: a9 :: a10 :: a11 :: a12 :: a13 :: some (.int x) :: t) st M) : pv_V l D ty base b cc nL own ret nm R Ex Qf cells slots pc (a0 :: a1 :: a2 :: a3 :: a4 :: a5 :: a6 :: a7 :: a8 :: a9 :: a10 :: a11 :: a12 :: a13 :: a14 :: t) (.int x :: st) M := pv_istore (i := 14) hd hn (by simp) hnL k
theorem pv_ast14 {x : Nat} {a0 a1 a2 a3 a4 a5 a6 a7 a8 a9 a10 a11 a12 a13 a14 : Option Value} {t : List (Option Value)} (hd : decode cc pc = .ok (.astore 14, 2)) (hn : pv_n2 (a0 :: a1 :: a2 :: a3 :: a4 :: a5 :: a6 :: a7 :: a8 :: a9 :: a10 :: a11 :: a12 :: a13 :: a14 :: t) 14 = true) (hnL : 14 < nL) (k : pv_V l D ty base b cc nL own ret nm R Ex Qf cells slots (pc + 2) (a0 :: a1 :: a2 :: a3 :: a4 :: a5 :: a6 :: a7 :: a8 :: a9 :: a10 :: a11 :: a12 :: a13 :: some (.ref x) :: t) st M) : pv_V l D ty base b cc nL own ret nm R Ex Qf cells slots pc (a0 :: a1 :: a2 :: a3 :: a4 :: a5 :: a6 :: a7 :: a8 :: a9 :: a10 :: a11 :: a12 :: a13 :: a14 :: t) (.ref x :: st) M := pv_astore (i := 14) hd hn (by simp) hnL k
theorem pv_a0st14  {a0 a1 a2 a3 a4 a5 a6 a7 a8 a9 a10 a11 a12 a13 a14 : Option Value} {t : List (Option Value)} (hd : decode cc pc = .ok (.astore 14, 2)) (hn : pv_n2 (a0 :: a1 :: a2 :: a3 :: a4 :: a5 :: a6 :: a7 :: a8 :: a9 :: a10 :: a11 :: a12 :: a13 :: a14 :: t) 14 = true) (hnL : 14 < nL) (k : pv_V l D ty base b cc nL own ret nm R Ex Qf cells slots (pc + 2) (a0 :: a1 :: a2 :: a3 :: a4 :: a5 :: a6 :: a7 :: a8 :: a9 :: a10 :: a11 :: a12 :: a13 :: some (.null) :: t) st M) : pv_V l D ty base b cc nL own ret nm R Ex Qf cells slots pc (a0 :: a1 :: a2 :: a3 :: a4 :: a5 :: a6 :: a7 :: a8 :: a9 :: a10 :: a11 :: a12 :: a13 :: a14 :: t) (.null :: st) M := pv_a0store (i := 14) hd hn (by simp) hnL k
theorem pv_inc14 {x : Nat} {a0 a1 a2 a3 a4 a5 a6 a7 a8 a9 a10 a11 a12 a13 : Option Value} {t : List (Option Value)} (hd : decode cc pc = .ok (.iinc 14 1, 3)) (hn : pv_n2 (a0 :: a1 :: a2 :: a3 :: a4 :: a5 :: a6 :: a7 :: a8 :: a9 :: a10 :: a11 :: a12 :: a13 :: some (.int (nI x)) :: t) 14 = true) (hnL : 14 < nL) (k : pv_V l D ty base b cc nL own ret nm R Ex Qf cells slots (pc + 3) (a0 :: a1 :: a2 :: a3 :: a4 :: a5 :: a6 :: a7 :: a8 :: a9 :: a10 :: a11 :: a12 :: a13 :: some (.int (nI (x + 1))) :: t) st M) : pv_V l D ty base b cc nL own ret nm R Ex Qf cells slots pc (a0 :: a1 :: a2 :: a3 :: a4 :: a5 :: a6 :: a7 :: a8 :: a9 :: a10 :: a11 :: a12 :: a13 :: some (.int (nI x)) :: t) st M := pv_iinc hd (nI (x + 1)) rfl (nI_succ x).symm hn (by simp) hnL k
theorem pv_iadd {x y : Int32} (hd : decode cc pc = .ok (.iadd, 1)) (k : pv_V l D ty base b cc nL own ret nm R Ex Qf cells slots (pc + 1) L (.int (x + y) :: st) M) : pv_V l D ty base b cc nL own ret nm R Ex Qf cells slots pc L (.int y :: .int x :: st) M :=
  fun p e s m args below meth c C H locs ls hl hP hS => lv_iadd C.1.1 C.1.2.1 hd (k p e s m args below meth c C H locs ls hl hP hS)
theorem pv_isub {x y : Int32} (hd : decode cc pc = .ok (.isub, 1)) (k : pv_V l D ty base b cc nL own ret nm R Ex Qf cells slots (pc + 1) L (.int (x - y) :: st) M) : pv_V l D ty base b cc nL own ret nm R Ex Qf cells slots pc L (.int y :: .int x :: st) M :=
  fun p e s m args below meth c C H locs ls hl hP hS => lv_isub C.1.1 C.1.2.1 hd (k p e s m args below meth c C H locs ls hl hP hS)
theorem pv_imul {x y : Int32} (hd : decode cc pc = .ok (.imul, 1)) (k : pv_V l D ty base b cc nL own ret nm R Ex Qf cells slots (pc + 1) L (.int (x * y) :: st) M) : pv_V l D ty base b cc nL own ret nm R Ex Qf cells slots pc L (.int y :: .int x :: st) M :=
  fun p e s m args below meth c C H locs ls hl hP hS => lv_imul C.1.1 C.1.2.1 hd (k p e s m args below meth c C H locs ls hl hP hS)
theorem pv_iand {x y : Int32} (hd : decode cc pc = .ok (.iand, 1)) (k : pv_V l D ty base b cc nL own ret nm R Ex Qf cells slots (pc + 1) L (.int (x &&& y) :: st) M) : pv_V l D ty base b cc nL own ret nm R Ex Qf cells slots pc L (.int y :: .int x :: st) M :=
  fun p e s m args below meth c C H locs ls hl hP hS => lv_iand C.1.1 C.1.2.1 hd (k p e s m args below meth c C H locs ls hl hP hS)
theorem pv_ior {x y : Int32} (hd : decode cc pc = .ok (.ior, 1)) (k : pv_V l D ty base b cc nL own ret nm R Ex Qf cells slots (pc + 1) L (.int (x ||| y) :: st) M) : pv_V l D ty base b cc nL own ret nm R Ex Qf cells slots pc L (.int y :: .int x :: st) M :=
  fun p e s m args below meth c C H locs ls hl hP hS => lv_ior C.1.1 C.1.2.1 hd (k p e s m args below meth c C H locs ls hl hP hS)
theorem pv_ixor {x y : Int32} (hd : decode cc pc = .ok (.ixor, 1)) (k : pv_V l D ty base b cc nL own ret nm R Ex Qf cells slots (pc + 1) L (.int (x ^^^ y) :: st) M) : pv_V l D ty base b cc nL own ret nm R Ex Qf cells slots pc L (.int y :: .int x :: st) M :=
  fun p e s m args below meth c C H locs ls hl hP hS => lv_ixor C.1.1 C.1.2.1 hd (k p e s m args below meth c C H locs ls hl hP hS)
theorem pv_irem {x y : Int32} (hd : decode cc pc = .ok (.irem, 1)) (hy : ¬ y = 0) (k : pv_V l D ty base b cc nL own ret nm R Ex Qf cells slots (pc + 1) L (.int (x - x / y * y) :: st) M) : pv_V l D ty base b cc nL own ret nm R Ex Qf cells slots pc L (.int y :: .int x :: st) M :=
  fun p e s m args below meth c C H locs ls hl hP hS => lv_irem C.1.1 C.1.2.1 hd hy (k p e s m args below meth c C H locs ls hl hP hS)
theorem pv_ladd {x y : Int64} (hd : decode cc pc = .ok (.ladd, 1)) (k : pv_V l D ty base b cc nL own ret nm R Ex Qf cells slots (pc + 1) L (.long (x + y) :: st) M) : pv_V l D ty base b cc nL own ret nm R Ex Qf cells slots pc L (.long y :: .long x :: st) M :=
  fun p e s m args below meth c C H locs ls hl hP hS => lv_ladd C.1.1 C.1.2.1 hd (k p e s m args below meth c C H locs ls hl hP hS)
theorem pv_lsub {x y : Int64} (hd : decode cc pc = .ok (.lsub, 1)) (k : pv_V l D ty base b cc nL own ret nm R Ex Qf cells slots (pc + 1) L (.long (x - y) :: st) M) : pv_V l D ty base b cc nL own ret nm R Ex Qf cells slots pc L (.long y :: .long x :: st) M :=
  fun p e s m args below meth c C H locs ls hl hP hS => lv_lsub C.1.1 C.1.2.1 hd (k p e s m args below meth c C H locs ls hl hP hS)
theorem pv_land {x y : Int64} (hd : decode cc pc = .ok (.land, 1)) (k : pv_V l D ty base b cc nL own ret nm R Ex Qf cells slots (pc + 1) L (.long (x &&& y) :: st) M) : pv_V l D ty base b cc nL own ret nm R Ex Qf cells slots pc L (.long y :: .long x :: st) M :=
  fun p e s m args below meth c C H locs ls hl hP hS => lv_land C.1.1 C.1.2.1 hd (k p e s m args below meth c C H locs ls hl hP hS)
theorem pv_lor {x y : Int64} (hd : decode cc pc = .ok (.lor, 1)) (k : pv_V l D ty base b cc nL own ret nm R Ex Qf cells slots (pc + 1) L (.long (x ||| y) :: st) M) : pv_V l D ty base b cc nL own ret nm R Ex Qf cells slots pc L (.long y :: .long x :: st) M :=
  fun p e s m args below meth c C H locs ls hl hP hS => lv_lor C.1.1 C.1.2.1 hd (k p e s m args below meth c C H locs ls hl hP hS)
theorem pv_lxor {x y : Int64} (hd : decode cc pc = .ok (.lxor, 1)) (k : pv_V l D ty base b cc nL own ret nm R Ex Qf cells slots (pc + 1) L (.long (x ^^^ y) :: st) M) : pv_V l D ty base b cc nL own ret nm R Ex Qf cells slots pc L (.long y :: .long x :: st) M :=
  fun p e s m args below meth c C H locs ls hl hP hS => lv_lxor C.1.1 C.1.2.1 hd (k p e s m args below meth c C H locs ls hl hP hS)
theorem pv_ishl {x y : Int32} (hd : decode cc pc = .ok (.ishl, 1)) (k : pv_V l D ty base b cc nL own ret nm R Ex Qf cells slots (pc + 1) L (.int (x <<< (y &&& 31)) :: st) M) : pv_V l D ty base b cc nL own ret nm R Ex Qf cells slots pc L (.int y :: .int x :: st) M :=
  fun p e s m args below meth c C H locs ls hl hP hS => lv_ishl C.1.1 C.1.2.1 hd (k p e s m args below meth c C H locs ls hl hP hS)
theorem pv_ishr {x y : Int32} (hd : decode cc pc = .ok (.ishr, 1)) (k : pv_V l D ty base b cc nL own ret nm R Ex Qf cells slots (pc + 1) L (.int (x >>> (y &&& 31)) :: st) M) : pv_V l D ty base b cc nL own ret nm R Ex Qf cells slots pc L (.int y :: .int x :: st) M :=
  fun p e s m args below meth c C H locs ls hl hP hS => lv_ishr C.1.1 C.1.2.1 hd (k p e s m args below meth c C H locs ls hl hP hS)
theorem pv_lshl {x : Int64} {y : Int32} (hd : decode cc pc = .ok (.lshl, 1)) (k : pv_V l D ty base b cc nL own ret nm R Ex Qf cells slots (pc + 1) L (.long (x <<< (y.toInt64 &&& 63)) :: st) M) : pv_V l D ty base b cc nL own ret nm R Ex Qf cells slots pc L (.int y :: .long x :: st) M :=
  fun p e s m args below meth c C H locs ls hl hP hS => lv_lshl C.1.1 C.1.2.1 hd rfl (k p e s m args below meth c C H locs ls hl hP hS)
theorem pv_lshr {x : Int64} {y : Int32} (hd : decode cc pc = .ok (.lshr, 1)) (k : pv_V l D ty base b cc nL own ret nm R Ex Qf cells slots (pc + 1) L (.long (x >>> (y.toInt64 &&& 63)) :: st) M) : pv_V l D ty base b cc nL own ret nm R Ex Qf cells slots pc L (.int y :: .long x :: st) M :=
  fun p e s m args below meth c C H locs ls hl hP hS => lv_lshr C.1.1 C.1.2.1 hd rfl (k p e s m args below meth c C H locs ls hl hP hS)
theorem pv_lushr {x : Int64} {y : Int32} (hd : decode cc pc = .ok (.lushr, 1)) (k : pv_V l D ty base b cc nL own ret nm R Ex Qf cells slots (pc + 1) L (.long ((x.toUInt64 >>> (y.toInt64.toUInt64 &&& Int64.toUInt64 63)).toInt64) :: st) M) : pv_V l D ty base b cc nL own ret nm R Ex Qf cells slots pc L (.int y :: .long x :: st) M :=
  fun p e s m args below meth c C H locs ls hl hP hS => lv_lushr C.1.1 C.1.2.1 hd rfl (k p e s m args below meth c C H locs ls hl hP hS)
theorem pv_l2i {x : Int64} (hd : decode cc pc = .ok (.l2i, 1)) (k : pv_V l D ty base b cc nL own ret nm R Ex Qf cells slots (pc + 1) L (.int x.toInt32 :: st) M) : pv_V l D ty base b cc nL own ret nm R Ex Qf cells slots pc L (.long x :: st) M :=
  fun p e s m args below meth c C H locs ls hl hP hS => lv_l2i C.1.1 C.1.2.1 hd rfl (k p e s m args below meth c C H locs ls hl hP hS)
theorem pv_lcmp {x y : Int64} (hd : decode cc pc = .ok (.lcmp, 1)) (k : pv_V l D ty base b cc nL own ret nm R Ex Qf cells slots (pc + 1) L (.int (lg_cmp x y) :: st) M) : pv_V l D ty base b cc nL own ret nm R Ex Qf cells slots pc L (.long y :: .long x :: st) M :=
  fun p e s m args below meth c C H locs ls hl hP hS => W.lcmp C.1.1 C.1.2.1 hd (k p e s m args below meth c C H locs ls hl hP hS)
theorem pv_dup {v : Value} (hd : decode cc pc = .ok (.dup, 1)) (hv : v.category = 1) (k : pv_V l D ty base b cc nL own ret nm R Ex Qf cells slots (pc + 1) L (v :: v :: st) M) : pv_V l D ty base b cc nL own ret nm R Ex Qf cells slots pc L (v :: st) M :=
  fun p e s m args below meth c C H locs ls hl hP hS => lv_dup C.1.1 C.1.2.1 hd ((pv_cat _ v).trans hv) (k p e s m args below meth c C H locs ls hl hP hS)
theorem pv_pop {v : Value} (hd : decode cc pc = .ok (.pop, 1)) (hv : v.category = 1) (k : pv_V l D ty base b cc nL own ret nm R Ex Qf cells slots (pc + 1) L (st) M) : pv_V l D ty base b cc nL own ret nm R Ex Qf cells slots pc L (v :: st) M :=
  fun p e s m args below meth c C H locs ls hl hP hS => lv_pop C.1.1 C.1.2.1 hd ((pv_cat _ v).trans hv) (k p e s m args below meth c C H locs ls hl hP hS)
theorem pv_dup2 {v u : Value} (hd : decode cc pc = .ok (.dup2, 1)) (hv : v.category = 1) (hu : u.category = 1) (k : pv_V l D ty base b cc nL own ret nm R Ex Qf cells slots (pc + 1) L (v :: u :: v :: u :: st) M) : pv_V l D ty base b cc nL own ret nm R Ex Qf cells slots pc L (v :: u :: st) M :=
  fun p e s m args below meth c C H locs ls hl hP hS => lv_dup2_11 C.1.1 C.1.2.1 hd ((pv_cat _ v).trans hv) ((pv_cat _ u).trans hu) (k p e s m args below meth c C H locs ls hl hP hS)
theorem pv_if_eq {x : Int32} {off : Int} (tgt : Nat) (ht : (pc : Int) + off = (tgt : Int)) (hd : decode cc pc = .ok (.ifCond .eq off, 3)) (k1 : (x = 0) → pv_V l D ty base b cc nL own ret nm R Ex Qf cells slots tgt L st M) (k2 : (¬ x = 0) → pv_V l D ty base b cc nL own ret nm R Ex Qf cells slots (pc + 3) L st M) : pv_V l D ty base b cc nL own ret nm R Ex Qf cells slots pc L (.int x :: st) M :=
  fun p e s m args below meth c C H locs ls hl hP hS => lv_if_eq C.1.1 C.1.2.1 hd ht (fun h => k1 h p e s m args below meth c C H locs ls hl hP hS) (fun h => k2 h p e s m args below meth c C H locs ls hl hP hS)
theorem pv_icmp_eq {x y : Int32} {off : Int} (tgt : Nat) (ht : (pc : Int) + off = (tgt : Int)) (hd : decode cc pc = .ok (.if_icmp .eq off, 3)) (k1 : (x = y) → pv_V l D ty base b cc nL own ret nm R Ex Qf cells slots tgt L st M) (k2 : (¬ x = y) → pv_V l D ty base b cc nL own ret nm R Ex Qf cells slots (pc + 3) L st M) : pv_V l D ty base b cc nL own ret nm R Ex Qf cells slots pc L (.int y :: .int x :: st) M :=
  fun p e s m args below meth c C H locs ls hl hP hS => lv_icmp_eq C.1.1 C.1.2.1 hd ht (fun h => k1 h p e s m args below meth c C H locs ls hl hP hS) (fun h => k2 h p e s m args below meth c C H locs ls hl hP hS)
theorem pv_if_ne {x : Int32} {off : Int} (tgt : Nat) (ht : (pc : Int) + off = (tgt : Int)) (hd : decode cc pc = .ok (.ifCond .ne off, 3)) (k1 : (¬ x = 0) → pv_V l D ty base b cc nL own ret nm R Ex Qf cells slots tgt L st M) (k2 : (x = 0) → pv_V l D ty base b cc nL own ret nm R Ex Qf cells slots (pc + 3) L st M) : pv_V l D ty base b cc nL own ret nm R Ex Qf cells slots pc L (.int x :: st) M :=
  fun p e s m args below meth c C H locs ls hl hP hS => lv_if_ne C.1.1 C.1.2.1 hd ht (fun h => k1 h p e s m args below meth c C H locs ls hl hP hS) (fun h => k2 h p e s m args below meth c C H locs ls hl hP hS)
theorem pv_icmp_ne {x y : Int32} {off : Int} (tgt : Nat) (ht : (pc : Int) + off = (tgt : Int)) (hd : decode cc pc = .ok (.if_icmp .ne off, 3)) (k1 : (¬ x = y) → pv_V l D ty base b cc nL own ret nm R Ex Qf cells slots tgt L st M) (k2 : (x = y) → pv_V l D ty base b cc nL own ret nm R Ex Qf cells slots (pc + 3) L st M) : pv_V l D ty base b cc nL own ret nm R Ex Qf cells slots pc L (.int y :: .int x :: st) M :=
  fun p e s m args below meth c C H locs ls hl hP hS => lv_icmp_ne C.1.1 C.1.2.1 hd ht (fun h => k1 h p e s m args below meth c C H locs ls hl hP hS) (fun h => k2 h p e s m args below meth c C H locs ls hl hP hS)
theorem pv_if_lt {x : Int32} {off : Int} (tgt : Nat) (ht : (pc : Int) + off = (tgt : Int)) (hd : decode cc pc = .ok (.ifCond .lt off, 3)) (k1 : (x < 0) → pv_V l D ty base b cc nL own ret nm R Ex Qf cells slots tgt L st M) (k2 : (¬ x < 0) → pv_V l D ty base b cc nL own ret nm R Ex Qf cells slots (pc + 3) L st M) : pv_V l D ty base b cc nL own ret nm R Ex Qf cells slots pc L (.int x :: st) M :=
  fun p e s m args below meth c C H locs ls hl hP hS => lv_if_lt C.1.1 C.1.2.1 hd ht (fun h => k1 h p e s m args below meth c C H locs ls hl hP hS) (fun h => k2 h p e s m args below meth c C H locs ls hl hP hS)
theorem pv_icmp_lt {x y : Int32} {off : Int} (tgt : Nat) (ht : (pc : Int) + off = (tgt : Int)) (hd : decode cc pc = .ok (.if_icmp .lt off, 3)) (k1 : (x < y) → pv_V l D ty base b cc nL own ret nm R Ex Qf cells slots tgt L st M) (k2 : (¬ x < y) → pv_V l D ty base b cc nL own ret nm R Ex Qf cells slots (pc + 3) L st M) : pv_V l D ty base b cc nL own ret nm R Ex Qf cells slots pc L (.int y :: .int x :: st) M :=
  fun p e s m args below meth c C H locs ls hl hP hS => lv_icmp_lt C.1.1 C.1.2.1 hd ht (fun h => k1 h p e s m args below meth c C H locs ls hl hP hS) (fun h => k2 h p e s m args below meth c C H locs ls hl hP hS)
theorem pv_if_ge {x : Int32} {off : Int} (tgt : Nat) (ht : (pc : Int) + off = (tgt : Int)) (hd : decode cc pc = .ok (.ifCond .ge off, 3)) (k1 : (0 ≤ x) → pv_V l D ty base b cc nL own ret nm R Ex Qf cells slots tgt L st M) (k2 : (¬ 0 ≤ x) → pv_V l D ty base b cc nL own ret nm R Ex Qf cells slots (pc + 3) L st M) : pv_V l D ty base b cc nL own ret nm R Ex Qf cells slots pc L (.int x :: st) M :=
  fun p e s m args below meth c C H locs ls hl hP hS => lv_if_ge C.1.1 C.1.2.1 hd ht (fun h => k1 h p e s m args below meth c C H locs ls hl hP hS) (fun h => k2 h p e s m args below meth c C H locs ls hl hP hS)
theorem pv_icmp_ge {x y : Int32} {off : Int} (tgt : Nat) (ht : (pc : Int) + off = (tgt : Int)) (hd : decode cc pc = .ok (.if_icmp .ge off, 3)) (k1 : (y ≤ x) → pv_V l D ty base b cc nL own ret nm R Ex Qf cells slots tgt L st M) (k2 : (¬ y ≤ x) → pv_V l D ty base b cc nL own ret nm R Ex Qf cells slots (pc + 3) L st M) : pv_V l D ty base b cc nL own ret nm R Ex Qf cells slots pc L (.int y :: .int x :: st) M :=
  fun p e s m args below meth c C H locs ls hl hP hS => lv_icmp_ge C.1.1 C.1.2.1 hd ht (fun h => k1 h p e s m args below meth c C H locs ls hl hP hS) (fun h => k2 h p e s m args below meth c C H locs ls hl hP hS)
theorem pv_if_gt {x : Int32} {off : Int} (tgt : Nat) (ht : (pc : Int) + off = (tgt : Int)) (hd : decode cc pc = .ok (.ifCond .gt off, 3)) (k1 : (0 < x) → pv_V l D ty base b cc nL own ret nm R Ex Qf cells slots tgt L st M) (k2 : (¬ 0 < x) → pv_V l D ty base b cc nL own ret nm R Ex Qf cells slots (pc + 3) L st M) : pv_V l D ty base b cc nL own ret nm R Ex Qf cells slots pc L (.int x :: st) M :=
  fun p e s m args below meth c C H locs ls hl hP hS => lv_if_gt C.1.1 C.1.2.1 hd ht (fun h => k1 h p e s m args below meth c C H locs ls hl hP hS) (fun h => k2 h p e s m args below meth c C H locs ls hl hP hS)
theorem pv_icmp_gt {x y : Int32} {off : Int} (tgt : Nat) (ht : (pc : Int) + off = (tgt : Int)) (hd : decode cc pc = .ok (.if_icmp .gt off, 3)) (k1 : (y < x) → pv_V l D ty base b cc nL own ret nm R Ex Qf cells slots tgt L st M) (k2 : (¬ y < x) → pv_V l D ty base b cc nL own ret nm R Ex Qf cells slots (pc + 3) L st M) : pv_V l D ty base b cc nL own ret nm R Ex Qf cells slots pc L (.int y :: .int x :: st) M :=
  fun p e s m args below meth c C H locs ls hl hP hS => lv_icmp_gt C.1.1 C.1.2.1 hd ht (fun h => k1 h p e s m args below meth c C H locs ls hl hP hS) (fun h => k2 h p e s m args below meth c C H locs ls hl hP hS)
theorem pv_if_le {x : Int32} {off : Int} (tgt : Nat) (ht : (pc : Int) + off = (tgt : Int)) (hd : decode cc pc = .ok (.ifCond .le off, 3)) (k1 : (x ≤ 0) → pv_V l D ty base b cc nL own ret nm R Ex Qf cells slots tgt L st M) (k2 : (¬ x ≤ 0) → pv_V l D ty base b cc nL own ret nm R Ex Qf cells slots (pc + 3) L st M) : pv_V l D ty base b cc nL own ret nm R Ex Qf cells slots pc L (.int x :: st) M :=
  fun p e s m args below meth c C H locs ls hl hP hS => lv_if_le C.1.1 C.1.2.1 hd ht (fun h => k1 h p e s m args below meth c C H locs ls hl hP hS) (fun h => k2 h p e s m args below meth c C H locs ls hl hP hS)
theorem pv_icmp_le {x y : Int32} {off : Int} (tgt : Nat) (ht : (pc : Int) + off = (tgt : Int)) (hd : decode cc pc = .ok (.if_icmp .le off, 3)) (k1 : (x ≤ y) → pv_V l D ty base b cc nL own ret nm R Ex Qf cells slots tgt L st M) (k2 : (¬ x ≤ y) → pv_V l D ty base b cc nL own ret nm R Ex Qf cells slots (pc + 3) L st M) : pv_V l D ty base b cc nL own ret nm R Ex Qf cells slots pc L (.int y :: .int x :: st) M :=
  fun p e s m args below meth c C H locs ls hl hP hS => lv_icmp_le C.1.1 C.1.2.1 hd ht (fun h => k1 h p e s m args below meth c C H locs ls hl hP hS) (fun h => k2 h p e s m args below meth c C H locs ls hl hP hS)
theorem pv_icmpN_eq {x y : Nat} {off : Int} (tgt : Nat) (ht : (pc : Int) + off = (tgt : Int)) (hd : decode cc pc = .ok (.if_icmp .eq off, 3)) (ha : x < 2 ^ 31) (hb : y < 2 ^ 31) (k1 : (x = y) → pv_V l D ty base b cc nL own ret nm R Ex Qf cells slots tgt L st M) (k2 : (¬ x = y) → pv_V l D ty base b cc nL own ret nm R Ex Qf cells slots (pc + 3) L st M) : pv_V l D ty base b cc nL own ret nm R Ex Qf cells slots pc L (.int (nI y) :: .int (nI x) :: st) M :=
  pv_icmp_eq tgt ht hd (fun h => k1 ((nI_eq ha hb).mp h)) (fun h => k2 (fun z => h ((nI_eq ha hb).mpr z)))
theorem pv_icmpN_ne {x y : Nat} {off : Int} (tgt : Nat) (ht : (pc : Int) + off = (tgt : Int)) (hd : decode cc pc = .ok (.if_icmp .ne off, 3)) (ha : x < 2 ^ 31) (hb : y < 2 ^ 31) (k1 : (¬ x = y) → pv_V l D ty base b cc nL own ret nm R Ex Qf cells slots tgt L st M) (k2 : (x = y) → pv_V l D ty base b cc nL own ret nm R Ex Qf cells slots (pc + 3) L st M) : pv_V l D ty base b cc nL own ret nm R Ex Qf cells slots pc L (.int (nI y) :: .int (nI x) :: st) M :=
  pv_icmp_ne tgt ht hd (fun h => k1 (fun z => h ((nI_eq ha hb).mpr z))) (fun h => k2 ((nI_eq ha hb).mp h))
theorem pv_icmpN_lt {x y : Nat} {off : Int} (tgt : Nat) (ht : (pc : Int) + off = (tgt : Int)) (hd : decode cc pc = .ok (.if_icmp .lt off, 3)) (ha : x < 2 ^ 31) (hb : y < 2 ^ 31) (k1 : (x < y) → pv_V l D ty base b cc nL own ret nm R Ex Qf cells slots tgt L st M) (k2 : (y ≤ x) → pv_V l D ty base b cc nL own ret nm R Ex Qf cells slots (pc + 3) L st M) : pv_V l D ty base b cc nL own ret nm R Ex Qf cells slots pc L (.int (nI y) :: .int (nI x) :: st) M :=
  pv_icmp_lt tgt ht hd (fun h => k1 ((nI_ltI ha hb).mp h)) (fun h => k2 (Nat.not_lt.mp (fun z => h ((nI_ltI ha hb).mpr z))))
theorem pv_icmpN_ge {x y : Nat} {off : Int} (tgt : Nat) (ht : (pc : Int) + off = (tgt : Int)) (hd : decode cc pc = .ok (.if_icmp .ge off, 3)) (ha : x < 2 ^ 31) (hb : y < 2 ^ 31) (k1 : (y ≤ x) → pv_V l D ty base b cc nL own ret nm R Ex Qf cells slots tgt L st M) (k2 : (x < y) → pv_V l D ty base b cc nL own ret nm R Ex Qf cells slots (pc + 3) L st M) : pv_V l D ty base b cc nL own ret nm R Ex Qf cells slots pc L (.int (nI y) :: .int (nI x) :: st) M :=
  pv_icmp_ge tgt ht hd (fun h => k1 ((nI_leI hb ha).mp h)) (fun h => k2 (Nat.not_le.mp (fun z => h ((nI_leI hb ha).mpr z))))
theorem pv_icmpN_gt {x y : Nat} {off : Int} (tgt : Nat) (ht : (pc : Int) + off = (tgt : Int)) (hd : decode cc pc = .ok (.if_icmp .gt off, 3)) (ha : x < 2 ^ 31) (hb : y < 2 ^ 31) (k1 : (y < x) → pv_V l D ty base b cc nL own ret nm R Ex Qf cells slots tgt L st M) (k2 : (x ≤ y) → pv_V l D ty base b cc nL own ret nm R Ex Qf cells slots (pc + 3) L st M) : pv_V l D ty base b cc nL own ret nm R Ex Qf cells slots pc L (.int (nI y) :: .int (nI x) :: st) M :=
  pv_icmp_gt tgt ht hd (fun h => k1 ((nI_ltI hb ha).mp h)) (fun h => k2 (Nat.not_lt.mp (fun z => h ((nI_ltI hb ha).mpr z))))
theorem pv_icmpN_le {x y : Nat} {off : Int} (tgt : Nat) (ht : (pc : Int) + off = (tgt : Int)) (hd : decode cc pc = .ok (.if_icmp .le off, 3)) (ha : x < 2 ^ 31) (hb : y < 2 ^ 31) (k1 : (x ≤ y) → pv_V l D ty base b cc nL own ret nm R Ex Qf cells slots tgt L st M) (k2 : (y < x) → pv_V l D ty base b cc nL own ret nm R Ex Qf cells slots (pc + 3) L st M) : pv_V l D ty base b cc nL own ret nm R Ex Qf cells slots pc L (.int (nI y) :: .int (nI x) :: st) M :=
  pv_icmp_le tgt ht hd (fun h => k1 ((nI_leI ha hb).mp h)) (fun h => k2 (Nat.not_le.mp (fun z => h ((nI_leI ha hb).mpr z))))
theorem pv_acmp_eq {x y : Option Nat} {off : Int} (tgt : Nat) (ht : (pc : Int) + off = (tgt : Int)) (hd : decode cc pc = .ok (.if_acmp .eq off, 3)) (k1 : (x = y) → pv_V l D ty base b cc nL own ret nm R Ex Qf cells slots tgt L st M) (k2 : (¬ x = y) → pv_V l D ty base b cc nL own ret nm R Ex Qf cells slots (pc + 3) L st M) : pv_V l D ty base b cc nL own ret nm R Ex Qf cells slots pc L (pv_p y :: pv_p x :: st) M := by
  intro p e s m args below meth c C H locs ls hl hP hS
  have hg : ∀ z : Option Nat, pv_tr (pv_ad base b) (pv_p z) = va_rf (z.map (fun k => base + k)) := fun z => by cases z <;> rfl
  show W p l e R s m args below meth c H locs cells slots (Qf below args s) (F0 m pc ls (pv_tr (pv_ad base b) (pv_p y) :: pv_tr (pv_ad base b) (pv_p x) :: st.map (pv_tr (pv_ad base b))))
  rw [hg y, hg x]
  exact lv_acmp_eq C.1.1 C.1.2.1 hd ht (fun h => k1 (pv_p_inj h) p e s m args below meth c C H locs ls hl hP hS) (fun h => k2 (fun z => h (by rw [z])) p e s m args below meth c C H locs ls hl hP hS)
theorem pv_acmp_ne {x y : Option Nat} {off : Int} (tgt : Nat) (ht : (pc : Int) + off = (tgt : Int)) (hd : decode cc pc = .ok (.if_acmp .ne off, 3)) (k1 : (¬ x = y) → pv_V l D ty base b cc nL own ret nm R Ex Qf cells slots tgt L st M) (k2 : (x = y) → pv_V l D ty base b cc nL own ret nm R Ex Qf cells slots (pc + 3) L st M) : pv_V l D ty base b cc nL own ret nm R Ex Qf cells slots pc L (pv_p y :: pv_p x :: st) M := by
  intro p e s m args below meth c C H locs ls hl hP hS
  have hg : ∀ z : Option Nat, pv_tr (pv_ad base b) (pv_p z) = va_rf (z.map (fun k => base + k)) := fun z => by cases z <;> rfl
  show W p l e R s m args below meth c H locs cells slots (Qf below args s) (F0 m pc ls (pv_tr (pv_ad base b) (pv_p y) :: pv_tr (pv_ad base b) (pv_p x) :: st.map (pv_tr (pv_ad base b))))
  rw [hg y, hg x]
  exact lv_acmp_ne C.1.1 C.1.2.1 hd ht (fun h => k1 (fun z => h (by rw [z])) p e s m args below meth c C H locs ls hl hP hS) (fun h => k2 (pv_p_inj h) p e s m args below meth c C H locs ls hl hP hS)
theorem pv_goto {off : Int} (tgt : Nat) (ht : (pc : Int) + off = (tgt : Int)) (hd : decode cc pc = .ok (.goto off, 3)) (k : pv_V l D ty base b cc nL own ret nm R Ex Qf cells slots tgt L st M) : pv_V l D ty base b cc nL own ret nm R Ex Qf cells slots pc L st M :=
  fun p e s m args below meth c C H locs ls hl hP hS => lv_goto C.1.1 C.1.2.1 hd ht (k p e s m args below meth c C H locs ls hl hP hS)
theorem pv_ifnonnull {x : Nat} {off : Int} (tgt : Nat) (ht : (pc : Int) + off = (tgt : Int)) (hd : decode cc pc = .ok (.ifnonnull off, 3)) (k : pv_V l D ty base b cc nL own ret nm R Ex Qf cells slots tgt L st M) : pv_V l D ty base b cc nL own ret nm R Ex Qf cells slots pc L (.ref x :: st) M :=
  fun p e s m args below meth c C H locs ls hl hP hS => lv_ifnonnull C.1.1 C.1.2.1 hd ht (k p e s m args below meth c C H locs ls hl hP hS)
theorem pv_ifnull {x : Nat} {off : Int} (hd : decode cc pc = .ok (.ifnull off, 3)) (k : pv_V l D ty base b cc nL own ret nm R Ex Qf cells slots (pc + 3) L st M) : pv_V l D ty base b cc nL own ret nm R Ex Qf cells slots pc L (.ref x :: st) M :=
  fun p e s m args below meth c C H locs ls hl hP hS => lv_ifnull C.1.1 C.1.2.1 hd (k p e s m args below meth c C H locs ls hl hP hS)
theorem pv_ifnullN {off : Int} (tgt : Nat) (ht : (pc : Int) + off = (tgt : Int)) (hd : decode cc pc = .ok (.ifnull off, 3)) (k : pv_V l D ty base b cc nL own ret nm R Ex Qf cells slots tgt L st M) : pv_V l D ty base b cc nL own ret nm R Ex Qf cells slots pc L (.null :: st) M :=
  fun p e s m args below meth c C H locs ls hl hP hS => lv_ifnullN C.1.1 C.1.2.1 hd ht (k p e s m args below meth c C H locs ls hl hP hS)
theorem pv_ifnonnullN {off : Int} (hd : decode cc pc = .ok (.ifnonnull off, 3)) (k : pv_V l D ty base b cc nL own ret nm R Ex Qf cells slots (pc + 3) L st M) : pv_V l D ty base b cc nL own ret nm R Ex Qf cells slots pc L (.null :: st) M :=
  fun p e s m args below meth c C H locs ls hl hP hS => lv_ifnonnullN C.1.1 C.1.2.1 hd (k p e s m args below meth c C H locs ls hl hP hS)
theorem pv_get {k kf idx ci : Nat} {fs : List Value} {v : Value} (hd : decode cc pc = .ok (.getfield idx, 3)) (he : M[k]? = some (.inr (ci, fs))) (hf : pv_F own idx ci kf) (hv : fs[kf]? = some v) (kk : pv_V l D ty base b cc nL own ret nm R Ex Qf cells slots (pc + 3) L (v :: st) M) : pv_V l D ty base b cc nL own ret nm R Ex Qf cells slots pc L (.ref (k + 1) :: st) M := by
  intro p e s m args below meth c C H locs ls hl hP hS
  obtain ⟨Cn, T, N, hc, hk, hin, hlink, -⟩ := hf
  refine va_get C.1.1 C.1.2.1 C.1.2.2.2.2 hin C.1.2.2.2.1 C.2.1.1 hP k (pv_w_get he) hc kf hk (C.1.2.2.2.2 _ hlink) (fun _ h => h) (v := pv_tr (pv_ad base b) v) ?_ hd (kk p e s m args below meth c C H locs ls hl hP hS)
  rw [List.getElem?_map, hv]
  rfl
theorem pv_put {k kf idx ci : Nat} {fs : List Value} {v : Value} {fty : FieldType} (hd : decode cc pc = .ok (.putfield idx, 3)) (he : M[k]? = some (.inr (ci, fs))) (hf : pv_F own idx ci kf) (hp : pv_FP ci kf fty false) (hn : ∀ ad, narrow fty (pv_tr ad v) = pv_tr ad v) (hfit : ∀ ad, fits fty (pv_tr ad v) = true) (hl9 : kf < fs.length) (kk : pv_V l D ty base b cc nL own ret nm R Ex Qf cells slots (pc + 3) L st (M.set k (.inr (ci, fs.set kf v)))) : pv_V l D ty base b cc nL own ret nm R Ex Qf cells slots pc L (v :: .ref (k + 1) :: st) M := by
  intro p e s m args below meth c C H locs ls hl hP hS
  obtain ⟨Cn, T, N, hc, hk, hin, hlink, -⟩ := hf
  obtain ⟨Cn', T', N', ty0, hc', hty, hnm, hfin, hdd⟩ := hp
  have hq := Option.some.inj (hc.symm.trans hc')
  cases hq
  refine va_put C.1.1 C.1.2.1 C.1.2.2.2.2 hin ty0 hty hnm C.1.2.2.2.1 C.2.1.1 hP pv_D hS k (pv_w_get he) hc kf hk (C.1.2.2.2.2 _ hlink) (fun _ h => h) hfin (v := pv_tr (pv_ad base b) v) hdd (hn _) (hfit _) (by rw [List.length_map]; exact hl9) hd (fun H1 locs1 hP1 hD1 hS1 => ?_)
  refine kk p e s m args below meth c C H1 locs1 ls hl ?_ hS1
  rw [← pv_w_set]
  have e9 : pv_te ty (pv_ad base b) (.inr (ci, fs.set kf v)) = .inr (ci, (fs.map (pv_tr (pv_ad base b))).set kf (pv_tr (pv_ad base b) v)) := by
    simp [pv_te, List.map_set]
  rw [e9]
  exact hP1
theorem pv_putF {k kf idx ci : Nat} {fs : List Value} {v : Value} {fty : FieldType} (hd : decode cc pc = .ok (.putfield idx, 3)) (he : M[k]? = some (.inr (ci, fs))) (hf : pv_F own idx ci kf) (hp : pv_FP ci kf fty true) (hnm1 : nm = "<init>") (hown : pv_own own ci kf) (hn : ∀ ad, narrow fty (pv_tr ad v) = pv_tr ad v) (hfit : ∀ ad, fits fty (pv_tr ad v) = true) (hl9 : kf < fs.length) (kk : pv_V l D ty base b cc nL own ret nm R Ex Qf cells slots (pc + 3) L st (M.set k (.inr (ci, fs.set kf v)))) : pv_V l D ty base b cc nL own ret nm R Ex Qf cells slots pc L (v :: .ref (k + 1) :: st) M := by
  intro p e s m args below meth c C H locs ls hl hP hS
  obtain ⟨Cn, T, N, hc, hk, hin, hlink, -⟩ := hf
  obtain ⟨Cn', T', N', ty0, hc', hty, hnm, hfin, hdd⟩ := hp
  obtain ⟨Cn2, T2, N2, hc2, hdecl⟩ := hown
  have hq := Option.some.inj (hc.symm.trans hc')
  cases hq
  have hq2 := Option.some.inj (hc.symm.trans hc2)
  cases hq2
  refine va_putF C.1.1 C.1.2.1 C.1.2.2.2.2 hin ty0 hty hnm C.1.2.2.2.1 C.2.1.1 hP pv_D hS k (pv_w_get he) hc kf hk (C.1.2.2.2.2 _ hlink) (fun _ h => h) hfin (C.2.2.2.2.1.trans hnm1) hdecl (v := pv_tr (pv_ad base b) v) hdd (hn _) (hfit _) (by rw [List.length_map]; exact hl9) hd (fun H1 locs1 hP1 hD1 hS1 => ?_)
  refine kk p e s m args below meth c C H1 locs1 ls hl ?_ hS1
  rw [← pv_w_set]
  have e9 : pv_te ty (pv_ad base b) (.inr (ci, fs.set kf v)) = .inr (ci, (fs.map (pv_tr (pv_ad base b))).set kf (pv_tr (pv_ad base b) v)) := by
    simp [pv_te, List.map_set]
  rw [e9]
  exact hP1
theorem pv_iald {k n j : Nat} {f : Nat → Int32} (hd : decode cc pc = .ok (.iaload, 1)) (he : M[k]? = some (.inl (0, n, .inl f))) (hj : j < n) (hn : n < 2 ^ 31) (kk : pv_V l D ty base b cc nL own ret nm R Ex Qf cells slots (pc + 1) L (.int (f j) :: st) M) : pv_V l D ty base b cc nL own ret nm R Ex Qf cells slots pc L (.int (nI j) :: .ref (k + 1) :: st) M := by
  intro p e s m args below meth c C H locs ls hl hP hS
  refine va_iald C.1.1 C.1.2.1 C.2.1.1 hP k 0 (pv_w_get he) rfl (vp_in_nI hj hn) hd ?_
  rw [nI_clamp (Nat.lt_trans hj hn)]
  exact kk p e s m args below meth c C H locs ls hl hP hS
theorem pv_zald {k n j : Nat} {f : Nat → Int32} (hd : decode cc pc = .ok (.baload, 1)) (he : M[k]? = some (.inl (1, n, .inl f))) (hj : j < n) (hn : n < 2 ^ 31) (kk : pv_V l D ty base b cc nL own ret nm R Ex Qf cells slots (pc + 1) L (.int (f j) :: st) M) : pv_V l D ty base b cc nL own ret nm R Ex Qf cells slots pc L (.int (nI j) :: .ref (k + 1) :: st) M := by
  intro p e s m args below meth c C H locs ls hl hP hS
  refine va_zald C.1.1 C.1.2.1 C.2.1.1 hP k 1 (pv_w_get he) rfl (vp_in_nI hj hn) hd ?_
  rw [nI_clamp (Nat.lt_trans hj hn)]
  exact kk p e s m args below meth c C H locs ls hl hP hS
theorem pv_lald {k n j : Nat} {f : Nat → Int64} (hd : decode cc pc = .ok (.laload, 1)) (he : M[k]? = some (.inl (2, n, .inr (.inl f)))) (hj : j < n) (hn : n < 2 ^ 31) (kk : pv_V l D ty base b cc nL own ret nm R Ex Qf cells slots (pc + 1) L (.long (f j) :: st) M) : pv_V l D ty base b cc nL own ret nm R Ex Qf cells slots pc L (.int (nI j) :: .ref (k + 1) :: st) M := by
  intro p e s m args below meth c C H locs ls hl hP hS
  refine va_lald C.1.1 C.1.2.1 C.2.1.1 hP k 2 (pv_w_get he) rfl (vp_in_nI hj hn) hd ?_
  rw [nI_clamp (Nat.lt_trans hj hn)]
  exact kk p e s m args below meth c C H locs ls hl hP hS
theorem pv_iast {k n j : Nat} {f : Nat → Int32} {x : Int32} (hd : decode cc pc = .ok (.iastore, 1)) (he : M[k]? = some (.inl (0, n, .inl f))) (hj : j < n) (hn : n < 2 ^ 31) (kk : pv_V l D ty base b cc nL own ret nm R Ex Qf cells slots (pc + 1) L st (M.set k (.inl (0, n, .inl (upd f j x))))) : pv_V l D ty base b cc nL own ret nm R Ex Qf cells slots pc L (.int x :: .int (nI j) :: .ref (k + 1) :: st) M := by
  intro p e s m args below meth c C H locs ls hl hP hS
  refine va_iast C.1.1 C.1.2.1 C.2.1.1 hP pv_D hS k 0 (pv_w_get he) rfl (vp_in_nI hj hn) hd (fun H1 locs1 hP1 hD1 hS1 => ?_)
  refine kk p e s m args below meth c C H1 locs1 ls hl ?_ hS1
  rw [← pv_w_set]
  rw [nI_clamp (Nat.lt_trans hj hn)] at hP1
  exact hP1
theorem pv_zast {k n j : Nat} {f : Nat → Int32} {x : Int32} (hx : vp_nar .boolean x = x) (hd : decode cc pc = .ok (.bastore, 1)) (he : M[k]? = some (.inl (1, n, .inl f))) (hj : j < n) (hn : n < 2 ^ 31) (kk : pv_V l D ty base b cc nL own ret nm R Ex Qf cells slots (pc + 1) L st (M.set k (.inl (1, n, .inl (upd f j x))))) : pv_V l D ty base b cc nL own ret nm R Ex Qf cells slots pc L (.int x :: .int (nI j) :: .ref (k + 1) :: st) M := by
  intro p e s m args below meth c C H locs ls hl hP hS
  refine va_zast C.1.1 C.1.2.1 C.2.1.1 hP pv_D hS k 1 (pv_w_get he) rfl (vp_in_nI hj hn) hd (fun H1 locs1 hP1 hD1 hS1 => ?_)
  refine kk p e s m args below meth c C H1 locs1 ls hl ?_ hS1
  rw [← pv_w_set]
  rw [nI_clamp (Nat.lt_trans hj hn), hx] at hP1
  exact hP1
theorem pv_last {k n j : Nat} {f : Nat → Int64} {x : Int64} (hd : decode cc pc = .ok (.lastore, 1)) (he : M[k]? = some (.inl (2, n, .inr (.inl f)))) (hj : j < n) (hn : n < 2 ^ 31) (kk : pv_V l D ty base b cc nL own ret nm R Ex Qf cells slots (pc + 1) L st (M.set k (.inl (2, n, .inr (.inl (vp_updL f j x)))))) : pv_V l D ty base b cc nL own ret nm R Ex Qf cells slots pc L (.long x :: .int (nI j) :: .ref (k + 1) :: st) M := by
  intro p e s m args below meth c C H locs ls hl hP hS
  refine va_last C.1.1 C.1.2.1 C.2.1.1 hP pv_D hS k 2 (pv_w_get he) rfl (vp_in_nI hj hn) hd (fun H1 locs1 hP1 hD1 hS1 => ?_)
  refine kk p e s m args below meth c C H1 locs1 ls hl ?_ hS1
  rw [← pv_w_set]
  rw [nI_clamp (Nat.lt_trans hj hn)] at hP1
  exact hP1
theorem pv_aald3 {k n j q : Nat} {f : Nat → Option Nat} (hd : decode cc pc = .ok (.aaload, 1)) (he : M[k]? = some (.inl (3, n, .inr (.inr (.inr (.inr f)))))) (hj : j < n) (hn : n < 2 ^ 31) (hq : f j = some q) (kk : pv_V l D ty base b cc nL own ret nm R Ex Qf cells slots (pc + 1) L (.ref q :: st) M) : pv_V l D ty base b cc nL own ret nm R Ex Qf cells slots pc L (.int (nI j) :: .ref (k + 1) :: st) M := by
  intro p e s m args below meth c C H locs ls hl hP hS
  refine va_aldq (C := pv_RN) C.1.1 C.1.2.1 C.2.1.1 hP k 3 (pv_w_get he) rfl (vp_in_nI hj hn) hd ?_
  rw [nI_clamp (Nat.lt_trans hj hn), hq]
  exact kk p e s m args below meth c C H locs ls hl hP hS
theorem pv_aast3 {k n j q ci : Nat} {f : Nat → Option Nat} {T : u_T} {N : Nat} {vs : List Value} (hd : decode cc pc = .ok (.aastore, 1)) (he : M[k]? = some (.inl (3, n, .inr (.inr (.inr (.inr f)))))) (hq : M[q]? = some (.inr (ci, vs))) (hc : pv_cl[ci]? = some (pv_RN, T, N)) (hj : j < n) (hn : n < 2 ^ 31) (kk : pv_V l D ty base b cc nL own ret nm R Ex Qf cells slots (pc + 1) L st (M.set k (.inl (3, n, .inr (.inr (.inr (.inr (va_up f j (some (q + 1))))))))) ) : pv_V l D ty base b cc nL own ret nm R Ex Qf cells slots pc L (.ref (q + 1) :: .int (nI j) :: .ref (k + 1) :: st) M := by
  intro p e s m args below meth c C H locs ls hl hP hS
  refine va_astq C.1.1 C.1.2.1 C.2.1.1 hP pv_D hS k 3 q ci (pv_w_get he) rfl (pv_w_get hq) hc (vp_in_nI hj hn) hd (fun H1 locs1 hP1 hD1 hS1 => ?_)
  refine kk p e s m args below meth c C H1 locs1 ls hl ?_ hS1
  rw [← pv_w_set]
  rw [nI_clamp (Nat.lt_trans hj hn)] at hP1
  have e9 : pv_te ty (pv_ad base b) (.inl (3, n, .inr (.inr (.inr (.inr (va_up f j (some (q + 1)))))))) = .inl (ty 3, n, .inr (.inr (.inr (.inr (va_up (fun j => (f j).map (pv_ad base b)) j (some (base + q))))))) := by
    simp only [pv_te, pv_ta]
    congr 7
    funext i
    by_cases hi : i = j <;> simp [va_up, hi, pv_ad]
  rw [e9]
  exact hP1
theorem pv_aald4 {k n j q : Nat} {f : Nat → Option Nat} (hd : decode cc pc = .ok (.aaload, 1)) (he : M[k]? = some (.inl (4, n, .inr (.inr (.inr (.inr f)))))) (hj : j < n) (hn : n < 2 ^ 31) (hq : f j = some q) (kk : pv_V l D ty base b cc nL own ret nm R Ex Qf cells slots (pc + 1) L (.ref q :: st) M) : pv_V l D ty base b cc nL own ret nm R Ex Qf cells slots pc L (.int (nI j) :: .ref (k + 1) :: st) M := by
  intro p e s m args below meth c C H locs ls hl hP hS
  refine va_aldq (C := pv_RR) C.1.1 C.1.2.1 C.2.1.1 hP k 4 (pv_w_get he) rfl (vp_in_nI hj hn) hd ?_
  rw [nI_clamp (Nat.lt_trans hj hn), hq]
  exact kk p e s m args below meth c C H locs ls hl hP hS
theorem pv_aast4 {k n j q ci : Nat} {f : Nat → Option Nat} {T : u_T} {N : Nat} {vs : List Value} (hd : decode cc pc = .ok (.aastore, 1)) (he : M[k]? = some (.inl (4, n, .inr (.inr (.inr (.inr f)))))) (hq : M[q]? = some (.inr (ci, vs))) (hc : pv_cl[ci]? = some (pv_RR, T, N)) (hj : j < n) (hn : n < 2 ^ 31) (kk : pv_V l D ty base b cc nL own ret nm R Ex Qf cells slots (pc + 1) L st (M.set k (.inl (4, n, .inr (.inr (.inr (.inr (va_up f j (some (q + 1))))))))) ) : pv_V l D ty base b cc nL own ret nm R Ex Qf cells slots pc L (.ref (q + 1) :: .int (nI j) :: .ref (k + 1) :: st) M := by
  intro p e s m args below meth c C H locs ls hl hP hS
  refine va_astq C.1.1 C.1.2.1 C.2.1.1 hP pv_D hS k 4 q ci (pv_w_get he) rfl (pv_w_get hq) hc (vp_in_nI hj hn) hd (fun H1 locs1 hP1 hD1 hS1 => ?_)
  refine kk p e s m args below meth c C H1 locs1 ls hl ?_ hS1
  rw [← pv_w_set]
  rw [nI_clamp (Nat.lt_trans hj hn)] at hP1
  have e9 : pv_te ty (pv_ad base b) (.inl (4, n, .inr (.inr (.inr (.inr (va_up f j (some (q + 1)))))))) = .inl (ty 4, n, .inr (.inr (.inr (.inr (va_up (fun j => (f j).map (pv_ad base b)) j (some (base + q))))))) := by
    simp only [pv_te, pv_ta]
    congr 7
    funext i
    by_cases hi : i = j <;> simp [va_up, hi, pv_ad]
  rw [e9]
  exact hP1
theorem pv_alen {k t n : Nat} {fty : FieldType} {x : (Nat → Int32) ⊕ (Nat → Int64) ⊕ (Nat → UInt32) ⊕ (Nat → UInt64) ⊕ (Nat → Option Nat)} (hd : decode cc pc = .ok (.arraylength, 1)) (he : M[k]? = some (.inl (t, n, x))) (ht : ∀ ty, (pv_tys ty)[t]? = some (ty t, fty)) (kk : pv_V l D ty base b cc nL own ret nm R Ex Qf cells slots (pc + 1) L (.int (nI n) :: st) M) : pv_V l D ty base b cc nL own ret nm R Ex Qf cells slots pc L (.ref (k + 1) :: st) M :=
  fun p e s m args below meth c C H locs ls hl hP hS => va_alen C.1.1 C.1.2.1 C.2.1.1 hP k t (pv_w_get he) (ht ty) rfl hd (kk p e s m args below meth c C H locs ls hl hP hS)
theorem pv_sld {n j : Nat} {xs : Nat → Int32} (hd : decode cc pc = .ok (.iaload, 1)) (hE : ∀ s, Ex s → va_X b n xs s s.heap ∧ b < base) (hj : j < n) (hn : n < 2 ^ 31) (kk : pv_V l D ty base b cc nL own ret nm R Ex Qf cells slots (pc + 1) L (.int (xs j) :: st) M) : pv_V l D ty base b cc nL own ret nm R Ex Qf cells slots pc L (.int (nI j) :: .ref 0 :: st) M := by
  intro p e s m args below meth c C H locs ls hl hP hS
  obtain ⟨hX, hb⟩ := hE s C.2.2.2.2.2.2
  refine va_sld (A := fun q => base ≤ q) C.1.1 C.1.2.1 hX (Nat.lt_of_lt_of_le hb C.2.2.2.2.2.1) (Nat.not_le.mpr hb) hS (vp_in_nI hj hn) hd ?_
  rw [nI_clamp (Nat.lt_trans hj hn)]
  exact kk p e s m args below meth c C H locs ls hl hP hS
theorem pv_slen {n : Nat} {xs : Nat → Int32} (hd : decode cc pc = .ok (.arraylength, 1)) (hE : ∀ s, Ex s → va_X b n xs s s.heap ∧ b < base) (kk : pv_V l D ty base b cc nL own ret nm R Ex Qf cells slots (pc + 1) L (.int (nI n) :: st) M) : pv_V l D ty base b cc nL own ret nm R Ex Qf cells slots pc L (.ref 0 :: st) M := by
  intro p e s m args below meth c C H locs ls hl hP hS
  obtain ⟨hX, hb⟩ := hE s C.2.2.2.2.2.2
  exact va_slen (A := fun q => base ≤ q) C.1.1 C.1.2.1 hX (Nat.lt_of_lt_of_le hb C.2.2.2.2.2.1) (Nat.not_le.mpr hb) hS hd (kk p e s m args below meth c C H locs ls hl hP hS)
end PV
end
section
/-! 03.calls: new cells, calls, the entry and the end of a method, over pv_V -/
section PVC
theorem pv_RA_inj {s : State} {c1 c2 : ClassId} {t : FieldType} (h1 : va_RA s c1 t) (h2 : va_RA s c2 t) : c1 = c2 := by
  cases t with
  | object C =>
    obtain ⟨_, _, _, _, _, a⟩ := h1
    obtain ⟨_, _, _, _, _, b⟩ := h2
    exact Option.some.inj (a.symm.trans b)
  | _ => exact Option.some.inj (Eq.trans (Eq.symm h1) h2)
theorem pv_fresh {D : va_G} {ty : Nat → ClassId} {base b q : Nat} {e : va_E} {H1 : Heap} {M : List va_E} (hP1 : va_P D pv_cl (pv_w ty base b M ++ [(q, e)]) H1) (hD1 : va_D (fun q => base ≤ q) (pv_w ty base b M ++ [(q, e)])) (hz : H1.size ≤ base + M.length + 1) : q = base + M.length := by
  have hlen : (pv_w ty base b M).length = M.length := by simp [pv_w]
  have hq : (pv_w ty base b M ++ [(q, e)])[M.length]? = some (q, e) := by
    rw [List.getElem?_append_right (by omega), hlen, Nat.sub_self]
    rfl
  have h1 : q < H1.size := (hP1 _ _ hq).lt
  have h2 : base ≤ q := hD1.2 _ _ hq
  by_cases h : q = base + M.length
  · exact h
  · have hk : q - base < M.length := by omega
    have h3 : M[q - base]? = some M[q - base] := List.getElem?_eq_getElem hk
    have h4 := pv_w_get (ty := ty) (base := base) (b := b) h3
    have h5 := hD1.1 (q - base) M.length _ _ (by rw [List.getElem?_append_left (by omega)]; exact h4) hq (by show base + (q - base) = q; omega)
    omega
theorem pv_sized {D : va_G} {ty : Nat → ClassId} {base b n0 : Nat} {M : List va_E} {p : Program} {l : Launch} {e : Env} {R : Room} {s : State} {m : MethodId} {args : Array Value} {below : List Frame} {meth : Method} {c : Code} {H : Heap} {locs : List Loc} {cells slots : Nat} {Q : State → Prop} {g : JFrame} (hs : s.heap.size = base + n0) (hc : n0 + cells = M.length) (hP : va_P D pv_cl (pv_w ty base b M) H) (hS : va_S (fun q => base ≤ q) s.heap H locs)
    (k : H.size = base + M.length → W p l e R s m args below meth c H locs cells slots Q g) : W p l e R s m args below meth c H locs cells slots Q g := by
  intro T hT X
  have h1 := X.heapSize
  rw [hT, hs] at h1
  have h2 : base + M.length ≤ H.size := by
    by_cases h : M.length = 0
    · have := hS.1
      omega
    · have h3 : M[M.length - 1]? = some M[M.length - 1] := List.getElem?_eq_getElem (by omega)
      have h4 : base + (M.length - 1) < H.size := (hP _ _ (pv_w_get h3)).lt
      omega
  exact k (by omega) T hT X
def pv_rm (d mc ms : Nat) : Room := { frames := d, cells := mc, slots := ms, locals := 40 * d }
def pv_Bt (D : va_G) (ty : Nat → ClassId) (base b : Nat) (M : List va_E) (t : State) : Prop := va_P D pv_cl (pv_w ty base b M) t.heap
def pv_Br (D : va_G) (ty : Nat → ClassId) (base b : Nat) (M : List va_E × Nat) (a : Nat) (t : State) : Prop := a = base + M.2 ∧ va_P D pv_cl (pv_w ty base b M.1) t.heap
def pv_P0 (D : va_G) (ty : Nat → ClassId) (base b : Nat) (Ex : State → Prop) (args : List Value) (M : List va_E) : Array Value → State → Prop := va_Pc (args.map (pv_tr (pv_ad base b))) (fun U => pv_K D ty U ∧ base ≤ U.heap.size ∧ Ex U ∧ va_P D pv_cl (pv_w ty base b M) U.heap)
def pv_ws (y : MethodName) (cc : ByteArray) (nL : Nat) (ret : Option FieldType) : List Cond := .code y cc nL ret :: pv_T
/-- the three kinds of contract: an int, nothing, a cell -/
def pv_QI (D : va_G) (ty : Nat → ClassId) (base b : Nat) (post : Int32 → List va_E → Prop) : Array Value → State → Outcome → State → Prop := va_Qi post (pv_Bt D ty base b) (fun q => base ≤ q)
def pv_QV (D : va_G) (ty : Nat → ClassId) (base b : Nat) (post : List va_E → Prop) : Array Value → State → Outcome → State → Prop := va_Qv post (pv_Bt D ty base b) (fun q => base ≤ q)
def pv_QR (D : va_G) (ty : Nat → ClassId) (base b : Nat) (post : Nat → List va_E → Prop) : Array Value → State → Outcome → State → Prop := va_Qr (fun u : List va_E × Nat => post u.2 u.1) (pv_Br D ty base b) (fun q => base ≤ q)
def pv_M (l : Launch) (D : va_G) (ty : Nat → ClassId) (base b d mc ms : Nat) (Ex : State → Prop) (y : MethodName) (cc : ByteArray) (nL : Nat) (ret : Option FieldType) (args : List Value) (M : List va_E) (Qc : Array Value → State → Outcome → State → Prop) : Prop :=
  Met l y (pv_ws y cc nL ret) (pv_rm d mc ms) (pv_P0 D ty base b Ex args M) Qc mc ms (fun q => base ≤ q)
def pv_Qf (base mc ms : Nat) (Qc : Array Value → State → Outcome → State → Prop) (below : List Frame) (a : Array Value) (s : State) : State → Prop := MQ below Qc a s mc ms (fun q => base ≤ q)
variable {l : Launch} {D : va_G} {ty : Nat → ClassId} {base b : Nat} {cc : ByteArray} {nL : Nat} {own : String} {ret : Option FieldType} {nm : String} {R : Room} {Ex : State → Prop} {Qf : List Frame → Array Value → State → State → Prop} {cells slots pc : Nat} {L : List (Option Value)} {st : List Value} {M : List va_E}
theorem pv_enter {y : MethodName} {d mc ms : Nat} {args : List Value} {Qc : Array Value → State → Outcome → State → Prop} (L0 : List (Option Value)) (hpl : plainName y.cls = true) (hL : ∀ ad, pv_l ad 0 L0 = lv_args 0 (args.map (pv_tr ad))) (hlen : ∀ ad, (lg_sl (args.map (pv_tr ad))).length ≤ nL)
    (k : pv_V l D ty base b cc nL y.cls ret y.name (pv_rm d mc ms) Ex (pv_Qf base mc ms Qc) 0 0 0 L0 [] M) : pv_M l D ty base b d mc ms Ex y cc nL ret args M Qc := by
  refine Met.ofW (cc := cc) (maxL := nL) (ret := ret) hpl rfl ?_
  intro p e s m args' below meth c s₁ B hml hv
  obtain ⟨rfl, hK, hsz, hE, hP⟩ := hv
  have hts := atoms_spec (ws := pv_ws y cc nL ret) B.pre
  rw [lg_entry_eq]
  refine k p e s m _ below meth c ⟨⟨B.exec, B.bytes, hml, findClass_of_methodNamed B.named, fun w hw => hts w (List.mem_cons_of_mem _ hw)⟩, hK, B.returns, B.notSynchronized, (name_of_methodNamed B.named B.method).1, hsz, hE⟩ s.heap [] _ ?_ hP va_S.rf
  rw [hL]
  exact lv_entry _ (hlen _)
theorem pv_iret {post : Int32 → List va_E → Prop} {v : Int32} (hd : decode cc pc = .ok (.ireturn, 1)) (hq : post v M) : pv_V l D ty base b cc nL own (some .int) nm R Ex (pv_Qf base cells slots (pv_QI D ty base b post)) cells slots pc L [.int v] M :=
  fun p e s m args below meth c C H locs ls hl hP hS => W.iret C.1.1 C.1.2.1 C.2.2.1 (fun t ht hW => ⟨⟨v, M, rfl, hq, by show va_P _ _ _ t.heap; rw [ht]; exact hP⟩, hS.F ht⟩) hS.2.2 hd C.2.2.2.1
theorem pv_zret {post : Int32 → List va_E → Prop} {v : Int32} (hd : decode cc pc = .ok (.ireturn, 1)) (hn : narrow .boolean (.int v) = .int v) (hq : post v M) : pv_V l D ty base b cc nL own (some .boolean) nm R Ex (pv_Qf base cells slots (pv_QI D ty base b post)) cells slots pc L [.int v] M :=
  fun p e s m args below meth c C H locs ls hl hP hS => W.zret C.1.1 C.1.2.1 C.2.2.1 hn (fun t ht hW => ⟨⟨v, M, rfl, hq, by show va_P _ _ _ t.heap; rw [ht]; exact hP⟩, hS.F ht⟩) hS.2.2 hd C.2.2.2.1
theorem pv_vret {post : List va_E → Prop} (hd : decode cc pc = .ok (.return_, 1)) (hq : post M) : pv_V l D ty base b cc nL own none nm R Ex (pv_Qf base cells slots (pv_QV D ty base b post)) cells slots pc L [] M :=
  fun p e s m args below meth c C H locs ls hl hP hS => W.vret C.1.1 C.1.2.1 C.2.2.1 (fun t ht hW => ⟨⟨M, rfl, hq, by show va_P _ _ _ t.heap; rw [ht]; exact hP⟩, hS.F ht⟩) hS.2.2 hd C.2.2.2.1
theorem pv_aret {post : Nat → List va_E → Prop} {k : Nat} {C0 : String} (hd : decode cc pc = .ok (.areturn, 1)) (hq : post k M) : pv_V l D ty base b cc nL own (some (.object C0)) nm R Ex (pv_Qf base cells slots (pv_QR D ty base b post)) cells slots pc L [.ref (k + 1)] M :=
  fun p e s m args below meth c C H locs ls hl hP hS => W.aret C.1.1 C.1.2.1 C.2.2.1 (Or.inl ⟨_, rfl⟩) (Or.inr ⟨base + k, rfl⟩) (fun t ht hW => ⟨⟨(M, k), base + k, rfl, hq, rfl, by show va_P _ _ _ t.heap; rw [ht]; exact hP⟩, hS.F ht⟩) hS.2.2 hd C.2.2.2.1
theorem pv_cats (st : List Value) : ((st.map (pv_tr (pv_ad base b))).map fun v => v.category) = st.map fun v => v.category := by
  rw [List.map_map]
  congr 1
  funext v
  exact pv_cat _ v
theorem pv_K.moved {s U : State} (h : pv_K D ty s) (hW : s.WarmedH U.vm) : pv_K D ty U := ⟨va_K.moved hW.alike h.1, h.2.1.moved hW.alike, h.2.2.1.moved hW.alike, fun q hq => (h.2.2.2 q hq).warmM hW⟩
theorem pv_blind {args : List Value} (hE : ∀ (U : State) (g : JFrame) (mk : MethodId) (a : Array Value), Ex U → Ex (U.calling g mk a)) : FrameBlind (pv_P0 D ty base b Ex args M) := by
  intro a U g mk q
  obtain ⟨q0, ⟨qK, qa, qb, qn⟩, qs, qE, qP⟩ := q
  exact ⟨q0, ⟨va_K.moved (u := U) (U := U.calling g mk a) (Vm.Alike.refl U.vm) qK, qa.moved (u := U) (U := U.calling g mk a) (Vm.Alike.refl U.vm), qb.moved (u := U) (U := U.calling g mk a) (Vm.Alike.refl U.vm), fun w hw => (qn w hw).same rfl (U := U.calling g mk a) rfl⟩, qs, hE U g mk a qE, qP⟩
/-- a callee's words -/
def pv_SB (y : MethodName) (cY : ByteArray) (nY : Nat) (rY : Option FieldType) (n : Nat) : Prop := Cond.code y cY nY rY ∈ pv_T ∧ Cond.initialized y.cls ∈ pv_T ∧ (y.cls ≠ "java/lang/invoke/MethodHandle" ∧ y.cls ≠ "java/lang/invoke/VarHandle" ∧ (parseMethodDescriptor y.desc).map (fun d => d.parameters.length) = some n)
theorem pv_goodIn {y : MethodName} {cY : ByteArray} {nY : Nat} {rY : Option FieldType} (h : Cond.code y cY nY rY ∈ pv_T) : GoodIn pv_T (pv_ws y cY nY rY) := by
  intro w hw
  rcases List.mem_cons.mp hw with rfl | hw
  · exact ⟨h, pv_T_good _ h⟩
  · exact ⟨hw, pv_T_good _ hw⟩
def pv_inst (y : MethodName) : Prop := Cond.instanceMethod y ∈ pv_T ∧ Cond.selects y.cls y y ∈ pv_T

theorem pv_callV0I {k idx d nY : Nat} {y : MethodName} {cY : ByteArray} {rY : Option FieldType} (hd : decode cc pc = .ok (.invokevirtual idx, 3)) (hM : pv_M l D ty base b d 0 0 (fun _ => True) y cY nY rY [.ref (k + 1)] M (pv_QI D ty base b (fun r M1 => pv_V l D ty base b cc nL own ret nm R Ex Qf cells slots (pc + 3) L (.int r :: st) M1))) (hB : pv_SB y cY nY rY 0) (hlk : Cond.methodLink own idx y ∈ pv_T) {ci N : Nat} {T : u_T} {fs : List Value} (hre : M[k]? = some (.inr (ci, fs))) (hcl : pv_cl[ci]? = some (y.cls, T, N)) (hin : pv_inst y) (hR : d + 1 ≤ R.frames) (hR2 : 8 + (nY + 11) + 40 * d ≤ R.locals) (hw : (st.map fun v => v.category).sum ≤ 8) (hc : cells ≤ R.cells) (hs : slots ≤ R.slots) : pv_V l D ty base b cc nL own ret nm R Ex Qf cells slots pc L (.ref (k + 1) :: st) M := by
  intro p e s m args below meth c C H locs ls hl hP hS
  have hts := C.1.2.2.2.2
  have hw9 : ((st.map (pv_tr (pv_ad base b))).map fun v => v.category).sum ≤ 8 := by rw [pv_cats]; exact hw
  have hr := va_runV (C := y.cls) (b := base + k) (As := []) (rest := st.map (pv_tr (pv_ad base b))) (e := e) (below := below) (meth := meth) (locs := locs) (cells := cells) (slots := slots) (g := F0 m pc ls ((.ref (k + 1) :: st).map (pv_tr (pv_ad base b)))) C.1 hM ⟨callB_of 0 hts (pv_goodIn hB.1) rfl rfl rfl (hts _ hB.2.1) (hts _ hlk) hB.2.2 ⟨hR, hR2⟩, hts _ hin.1, hts _ hin.2⟩ ⟨(pv_blind (fun U g mk a h => h)), va_recv C.2.1.1 hP hcl (pv_w_get hre), fun U hU hW => ⟨rfl, C.2.1.moved hW, by rw [hU]; exact Nat.le_trans C.2.2.2.2.2.1 hS.1, trivial, by rw [hU]; exact hP⟩⟩ rfl rfl hl.1 rfl (lv_room hw9) hd ⟨hc, hs⟩
  exact va_calli hr hS (fun q _ h => h) (fun q h => h) (fun r M1 t H1 locs1 ht hvm hpost hB1 hz1 hk1 hS1 => hpost p e s m args below meth c C H1 locs1 ls hl (ht ▸ hB1) hS1)
theorem pv_callV1I {k idx d nY : Nat} {y : MethodName} {cY : ByteArray} {rY : Option FieldType} {v1 : Value} (hd : decode cc pc = .ok (.invokevirtual idx, 3)) (hM : pv_M l D ty base b d 0 0 (fun _ => True) y cY nY rY [.ref (k + 1), v1] M (pv_QI D ty base b (fun r M1 => pv_V l D ty base b cc nL own ret nm R Ex Qf cells slots (pc + 3) L (.int r :: st) M1))) (hB : pv_SB y cY nY rY 1) (hlk : Cond.methodLink own idx y ∈ pv_T) {ci N : Nat} {T : u_T} {fs : List Value} (hre : M[k]? = some (.inr (ci, fs))) (hcl : pv_cl[ci]? = some (y.cls, T, N)) (hin : pv_inst y) (hR : d + 1 ≤ R.frames) (hR2 : 8 + (nY + 11) + 40 * d ≤ R.locals) (hw : (st.map fun v => v.category).sum ≤ 8) (hc : cells ≤ R.cells) (hs : slots ≤ R.slots) : pv_V l D ty base b cc nL own ret nm R Ex Qf cells slots pc L (v1 :: .ref (k + 1) :: st) M := by
  intro p e s m args below meth c C H locs ls hl hP hS
  have hts := C.1.2.2.2.2
  have hw9 : ((st.map (pv_tr (pv_ad base b))).map fun v => v.category).sum ≤ 8 := by rw [pv_cats]; exact hw
  have hr := va_runV (C := y.cls) (b := base + k) (As := [pv_tr (pv_ad base b) v1]) (rest := st.map (pv_tr (pv_ad base b))) (e := e) (below := below) (meth := meth) (locs := locs) (cells := cells) (slots := slots) (g := F0 m pc ls ((v1 :: .ref (k + 1) :: st).map (pv_tr (pv_ad base b)))) C.1 hM ⟨callB_of 1 hts (pv_goodIn hB.1) rfl rfl rfl (hts _ hB.2.1) (hts _ hlk) hB.2.2 ⟨hR, hR2⟩, hts _ hin.1, hts _ hin.2⟩ ⟨(pv_blind (fun U g mk a h => h)), va_recv C.2.1.1 hP hcl (pv_w_get hre), fun U hU hW => ⟨rfl, C.2.1.moved hW, by rw [hU]; exact Nat.le_trans C.2.2.2.2.2.1 hS.1, trivial, by rw [hU]; exact hP⟩⟩ rfl rfl hl.1 rfl (lv_room hw9) hd ⟨hc, hs⟩
  exact va_calli hr hS (fun q _ h => h) (fun q h => h) (fun r M1 t H1 locs1 ht hvm hpost hB1 hz1 hk1 hS1 => hpost p e s m args below meth c C H1 locs1 ls hl (ht ▸ hB1) hS1)
theorem pv_callV2I {k idx d nY : Nat} {y : MethodName} {cY : ByteArray} {rY : Option FieldType} {v1 v2 : Value} (hd : decode cc pc = .ok (.invokevirtual idx, 3)) (hM : pv_M l D ty base b d 0 0 (fun _ => True) y cY nY rY [.ref (k + 1), v1, v2] M (pv_QI D ty base b (fun r M1 => pv_V l D ty base b cc nL own ret nm R Ex Qf cells slots (pc + 3) L (.int r :: st) M1))) (hB : pv_SB y cY nY rY 2) (hlk : Cond.methodLink own idx y ∈ pv_T) {ci N : Nat} {T : u_T} {fs : List Value} (hre : M[k]? = some (.inr (ci, fs))) (hcl : pv_cl[ci]? = some (y.cls, T, N)) (hin : pv_inst y) (hR : d + 1 ≤ R.frames) (hR2 : 8 + (nY + 11) + 40 * d ≤ R.locals) (hw : (st.map fun v => v.category).sum ≤ 8) (hc : cells ≤ R.cells) (hs : slots ≤ R.slots) : pv_V l D ty base b cc nL own ret nm R Ex Qf cells slots pc L (v2 :: v1 :: .ref (k + 1) :: st) M := by
  intro p e s m args below meth c C H locs ls hl hP hS
  have hts := C.1.2.2.2.2
  have hw9 : ((st.map (pv_tr (pv_ad base b))).map fun v => v.category).sum ≤ 8 := by rw [pv_cats]; exact hw
  have hr := va_runV (C := y.cls) (b := base + k) (As := [pv_tr (pv_ad base b) v1, pv_tr (pv_ad base b) v2]) (rest := st.map (pv_tr (pv_ad base b))) (e := e) (below := below) (meth := meth) (locs := locs) (cells := cells) (slots := slots) (g := F0 m pc ls ((v2 :: v1 :: .ref (k + 1) :: st).map (pv_tr (pv_ad base b)))) C.1 hM ⟨callB_of 2 hts (pv_goodIn hB.1) rfl rfl rfl (hts _ hB.2.1) (hts _ hlk) hB.2.2 ⟨hR, hR2⟩, hts _ hin.1, hts _ hin.2⟩ ⟨(pv_blind (fun U g mk a h => h)), va_recv C.2.1.1 hP hcl (pv_w_get hre), fun U hU hW => ⟨rfl, C.2.1.moved hW, by rw [hU]; exact Nat.le_trans C.2.2.2.2.2.1 hS.1, trivial, by rw [hU]; exact hP⟩⟩ rfl rfl hl.1 rfl (lv_room hw9) hd ⟨hc, hs⟩
  exact va_calli hr hS (fun q _ h => h) (fun q h => h) (fun r M1 t H1 locs1 ht hvm hpost hB1 hz1 hk1 hS1 => hpost p e s m args below meth c C H1 locs1 ls hl (ht ▸ hB1) hS1)
theorem pv_callV3I {k idx d nY : Nat} {y : MethodName} {cY : ByteArray} {rY : Option FieldType} {v1 v2 v3 : Value} (hd : decode cc pc = .ok (.invokevirtual idx, 3)) (hM : pv_M l D ty base b d 0 0 (fun _ => True) y cY nY rY [.ref (k + 1), v1, v2, v3] M (pv_QI D ty base b (fun r M1 => pv_V l D ty base b cc nL own ret nm R Ex Qf cells slots (pc + 3) L (.int r :: st) M1))) (hB : pv_SB y cY nY rY 3) (hlk : Cond.methodLink own idx y ∈ pv_T) {ci N : Nat} {T : u_T} {fs : List Value} (hre : M[k]? = some (.inr (ci, fs))) (hcl : pv_cl[ci]? = some (y.cls, T, N)) (hin : pv_inst y) (hR : d + 1 ≤ R.frames) (hR2 : 8 + (nY + 11) + 40 * d ≤ R.locals) (hw : (st.map fun v => v.category).sum ≤ 8) (hc : cells ≤ R.cells) (hs : slots ≤ R.slots) : pv_V l D ty base b cc nL own ret nm R Ex Qf cells slots pc L (v3 :: v2 :: v1 :: .ref (k + 1) :: st) M := by
  intro p e s m args below meth c C H locs ls hl hP hS
  have hts := C.1.2.2.2.2
  have hw9 : ((st.map (pv_tr (pv_ad base b))).map fun v => v.category).sum ≤ 8 := by rw [pv_cats]; exact hw
  have hr := va_runV (C := y.cls) (b := base + k) (As := [pv_tr (pv_ad base b) v1, pv_tr (pv_ad base b) v2, pv_tr (pv_ad base b) v3]) (rest := st.map (pv_tr (pv_ad base b))) (e := e) (below := below) (meth := meth) (locs := locs) (cells := cells) (slots := slots) (g := F0 m pc ls ((v3 :: v2 :: v1 :: .ref (k + 1) :: st).map (pv_tr (pv_ad base b)))) C.1 hM ⟨callB_of 3 hts (pv_goodIn hB.1) rfl rfl rfl (hts _ hB.2.1) (hts _ hlk) hB.2.2 ⟨hR, hR2⟩, hts _ hin.1, hts _ hin.2⟩ ⟨(pv_blind (fun U g mk a h => h)), va_recv C.2.1.1 hP hcl (pv_w_get hre), fun U hU hW => ⟨rfl, C.2.1.moved hW, by rw [hU]; exact Nat.le_trans C.2.2.2.2.2.1 hS.1, trivial, by rw [hU]; exact hP⟩⟩ rfl rfl hl.1 rfl (lv_room hw9) hd ⟨hc, hs⟩
  exact va_calli hr hS (fun q _ h => h) (fun q h => h) (fun r M1 t H1 locs1 ht hvm hpost hB1 hz1 hk1 hS1 => hpost p e s m args below meth c C H1 locs1 ls hl (ht ▸ hB1) hS1)
theorem pv_callV0V {k idx d nY : Nat} {y : MethodName} {cY : ByteArray} {rY : Option FieldType} (hd : decode cc pc = .ok (.invokevirtual idx, 3)) (hM : pv_M l D ty base b d 0 0 (fun _ => True) y cY nY rY [.ref (k + 1)] M (pv_QV D ty base b (fun M1 => pv_V l D ty base b cc nL own ret nm R Ex Qf cells slots (pc + 3) L st M1))) (hB : pv_SB y cY nY rY 0) (hlk : Cond.methodLink own idx y ∈ pv_T) {ci N : Nat} {T : u_T} {fs : List Value} (hre : M[k]? = some (.inr (ci, fs))) (hcl : pv_cl[ci]? = some (y.cls, T, N)) (hin : pv_inst y) (hR : d + 1 ≤ R.frames) (hR2 : 8 + (nY + 11) + 40 * d ≤ R.locals) (hw : (st.map fun v => v.category).sum ≤ 8) (hc : cells ≤ R.cells) (hs : slots ≤ R.slots) : pv_V l D ty base b cc nL own ret nm R Ex Qf cells slots pc L (.ref (k + 1) :: st) M := by
  intro p e s m args below meth c C H locs ls hl hP hS
  have hts := C.1.2.2.2.2
  have hw9 : ((st.map (pv_tr (pv_ad base b))).map fun v => v.category).sum ≤ 8 := by rw [pv_cats]; exact hw
  have hr := va_runV (C := y.cls) (b := base + k) (As := []) (rest := st.map (pv_tr (pv_ad base b))) (e := e) (below := below) (meth := meth) (locs := locs) (cells := cells) (slots := slots) (g := F0 m pc ls ((.ref (k + 1) :: st).map (pv_tr (pv_ad base b)))) C.1 hM ⟨callB_of 0 hts (pv_goodIn hB.1) rfl rfl rfl (hts _ hB.2.1) (hts _ hlk) hB.2.2 ⟨hR, hR2⟩, hts _ hin.1, hts _ hin.2⟩ ⟨(pv_blind (fun U g mk a h => h)), va_recv C.2.1.1 hP hcl (pv_w_get hre), fun U hU hW => ⟨rfl, C.2.1.moved hW, by rw [hU]; exact Nat.le_trans C.2.2.2.2.2.1 hS.1, trivial, by rw [hU]; exact hP⟩⟩ rfl rfl hl.1 rfl (lv_room hw9) hd ⟨hc, hs⟩
  exact va_callv hr hS (fun q _ h => h) (fun q h => h) (fun M1 t H1 locs1 ht hvm hpost hB1 hz1 hk1 hS1 => hpost p e s m args below meth c C H1 locs1 ls hl (ht ▸ hB1) hS1)
theorem pv_callV1V {k idx d nY : Nat} {y : MethodName} {cY : ByteArray} {rY : Option FieldType} {v1 : Value} (hd : decode cc pc = .ok (.invokevirtual idx, 3)) (hM : pv_M l D ty base b d 0 0 (fun _ => True) y cY nY rY [.ref (k + 1), v1] M (pv_QV D ty base b (fun M1 => pv_V l D ty base b cc nL own ret nm R Ex Qf cells slots (pc + 3) L st M1))) (hB : pv_SB y cY nY rY 1) (hlk : Cond.methodLink own idx y ∈ pv_T) {ci N : Nat} {T : u_T} {fs : List Value} (hre : M[k]? = some (.inr (ci, fs))) (hcl : pv_cl[ci]? = some (y.cls, T, N)) (hin : pv_inst y) (hR : d + 1 ≤ R.frames) (hR2 : 8 + (nY + 11) + 40 * d ≤ R.locals) (hw : (st.map fun v => v.category).sum ≤ 8) (hc : cells ≤ R.cells) (hs : slots ≤ R.slots) : pv_V l D ty base b cc nL own ret nm R Ex Qf cells slots pc L (v1 :: .ref (k + 1) :: st) M := by
  intro p e s m args below meth c C H locs ls hl hP hS
  have hts := C.1.2.2.2.2
  have hw9 : ((st.map (pv_tr (pv_ad base b))).map fun v => v.category).sum ≤ 8 := by rw [pv_cats]; exact hw
  have hr := va_runV (C := y.cls) (b := base + k) (As := [pv_tr (pv_ad base b) v1]) (rest := st.map (pv_tr (pv_ad base b))) (e := e) (below := below) (meth := meth) (locs := locs) (cells := cells) (slots := slots) (g := F0 m pc ls ((v1 :: .ref (k + 1) :: st).map (pv_tr (pv_ad base b)))) C.1 hM ⟨callB_of 1 hts (pv_goodIn hB.1) rfl rfl rfl (hts _ hB.2.1) (hts _ hlk) hB.2.2 ⟨hR, hR2⟩, hts _ hin.1, hts _ hin.2⟩ ⟨(pv_blind (fun U g mk a h => h)), va_recv C.2.1.1 hP hcl (pv_w_get hre), fun U hU hW => ⟨rfl, C.2.1.moved hW, by rw [hU]; exact Nat.le_trans C.2.2.2.2.2.1 hS.1, trivial, by rw [hU]; exact hP⟩⟩ rfl rfl hl.1 rfl (lv_room hw9) hd ⟨hc, hs⟩
  exact va_callv hr hS (fun q _ h => h) (fun q h => h) (fun M1 t H1 locs1 ht hvm hpost hB1 hz1 hk1 hS1 => hpost p e s m args below meth c C H1 locs1 ls hl (ht ▸ hB1) hS1)
theorem pv_callV2V {k idx d nY : Nat} {y : MethodName} {cY : ByteArray} {rY : Option FieldType} {v1 v2 : Value} (hd : decode cc pc = .ok (.invokevirtual idx, 3)) (hM : pv_M l D ty base b d 0 0 (fun _ => True) y cY nY rY [.ref (k + 1), v1, v2] M (pv_QV D ty base b (fun M1 => pv_V l D ty base b cc nL own ret nm R Ex Qf cells slots (pc + 3) L st M1))) (hB : pv_SB y cY nY rY 2) (hlk : Cond.methodLink own idx y ∈ pv_T) {ci N : Nat} {T : u_T} {fs : List Value} (hre : M[k]? = some (.inr (ci, fs))) (hcl : pv_cl[ci]? = some (y.cls, T, N)) (hin : pv_inst y) (hR : d + 1 ≤ R.frames) (hR2 : 8 + (nY + 11) + 40 * d ≤ R.locals) (hw : (st.map fun v => v.category).sum ≤ 8) (hc : cells ≤ R.cells) (hs : slots ≤ R.slots) : pv_V l D ty base b cc nL own ret nm R Ex Qf cells slots pc L (v2 :: v1 :: .ref (k + 1) :: st) M := by
  intro p e s m args below meth c C H locs ls hl hP hS
  have hts := C.1.2.2.2.2
  have hw9 : ((st.map (pv_tr (pv_ad base b))).map fun v => v.category).sum ≤ 8 := by rw [pv_cats]; exact hw
  have hr := va_runV (C := y.cls) (b := base + k) (As := [pv_tr (pv_ad base b) v1, pv_tr (pv_ad base b) v2]) (rest := st.map (pv_tr (pv_ad base b))) (e := e) (below := below) (meth := meth) (locs := locs) (cells := cells) (slots := slots) (g := F0 m pc ls ((v2 :: v1 :: .ref (k + 1) :: st).map (pv_tr (pv_ad base b)))) C.1 hM ⟨callB_of 2 hts (pv_goodIn hB.1) rfl rfl rfl (hts _ hB.2.1) (hts _ hlk) hB.2.2 ⟨hR, hR2⟩, hts _ hin.1, hts _ hin.2⟩ ⟨(pv_blind (fun U g mk a h => h)), va_recv C.2.1.1 hP hcl (pv_w_get hre), fun U hU hW => ⟨rfl, C.2.1.moved hW, by rw [hU]; exact Nat.le_trans C.2.2.2.2.2.1 hS.1, trivial, by rw [hU]; exact hP⟩⟩ rfl rfl hl.1 rfl (lv_room hw9) hd ⟨hc, hs⟩
  exact va_callv hr hS (fun q _ h => h) (fun q h => h) (fun M1 t H1 locs1 ht hvm hpost hB1 hz1 hk1 hS1 => hpost p e s m args below meth c C H1 locs1 ls hl (ht ▸ hB1) hS1)
theorem pv_callV3V {k idx d nY : Nat} {y : MethodName} {cY : ByteArray} {rY : Option FieldType} {v1 v2 v3 : Value} (hd : decode cc pc = .ok (.invokevirtual idx, 3)) (hM : pv_M l D ty base b d 0 0 (fun _ => True) y cY nY rY [.ref (k + 1), v1, v2, v3] M (pv_QV D ty base b (fun M1 => pv_V l D ty base b cc nL own ret nm R Ex Qf cells slots (pc + 3) L st M1))) (hB : pv_SB y cY nY rY 3) (hlk : Cond.methodLink own idx y ∈ pv_T) {ci N : Nat} {T : u_T} {fs : List Value} (hre : M[k]? = some (.inr (ci, fs))) (hcl : pv_cl[ci]? = some (y.cls, T, N)) (hin : pv_inst y) (hR : d + 1 ≤ R.frames) (hR2 : 8 + (nY + 11) + 40 * d ≤ R.locals) (hw : (st.map fun v => v.category).sum ≤ 8) (hc : cells ≤ R.cells) (hs : slots ≤ R.slots) : pv_V l D ty base b cc nL own ret nm R Ex Qf cells slots pc L (v3 :: v2 :: v1 :: .ref (k + 1) :: st) M := by
  intro p e s m args below meth c C H locs ls hl hP hS
  have hts := C.1.2.2.2.2
  have hw9 : ((st.map (pv_tr (pv_ad base b))).map fun v => v.category).sum ≤ 8 := by rw [pv_cats]; exact hw
  have hr := va_runV (C := y.cls) (b := base + k) (As := [pv_tr (pv_ad base b) v1, pv_tr (pv_ad base b) v2, pv_tr (pv_ad base b) v3]) (rest := st.map (pv_tr (pv_ad base b))) (e := e) (below := below) (meth := meth) (locs := locs) (cells := cells) (slots := slots) (g := F0 m pc ls ((v3 :: v2 :: v1 :: .ref (k + 1) :: st).map (pv_tr (pv_ad base b)))) C.1 hM ⟨callB_of 3 hts (pv_goodIn hB.1) rfl rfl rfl (hts _ hB.2.1) (hts _ hlk) hB.2.2 ⟨hR, hR2⟩, hts _ hin.1, hts _ hin.2⟩ ⟨(pv_blind (fun U g mk a h => h)), va_recv C.2.1.1 hP hcl (pv_w_get hre), fun U hU hW => ⟨rfl, C.2.1.moved hW, by rw [hU]; exact Nat.le_trans C.2.2.2.2.2.1 hS.1, trivial, by rw [hU]; exact hP⟩⟩ rfl rfl hl.1 rfl (lv_room hw9) hd ⟨hc, hs⟩
  exact va_callv hr hS (fun q _ h => h) (fun q h => h) (fun M1 t H1 locs1 ht hvm hpost hB1 hz1 hk1 hS1 => hpost p e s m args below meth c C H1 locs1 ls hl (ht ▸ hB1) hS1)
theorem pv_callV0R {k idx d nY : Nat} {y : MethodName} {cY : ByteArray} {rY : Option FieldType} (hd : decode cc pc = .ok (.invokevirtual idx, 3)) (hM : pv_M l D ty base b d 0 0 (fun _ => True) y cY nY rY [.ref (k + 1)] M (pv_QR D ty base b (fun r M1 => pv_V l D ty base b cc nL own ret nm R Ex Qf cells slots (pc + 3) L (.ref (r + 1) :: st) M1))) (hB : pv_SB y cY nY rY 0) (hlk : Cond.methodLink own idx y ∈ pv_T) {ci N : Nat} {T : u_T} {fs : List Value} (hre : M[k]? = some (.inr (ci, fs))) (hcl : pv_cl[ci]? = some (y.cls, T, N)) (hin : pv_inst y) (hR : d + 1 ≤ R.frames) (hR2 : 8 + (nY + 11) + 40 * d ≤ R.locals) (hw : (st.map fun v => v.category).sum ≤ 8) (hc : cells ≤ R.cells) (hs : slots ≤ R.slots) : pv_V l D ty base b cc nL own ret nm R Ex Qf cells slots pc L (.ref (k + 1) :: st) M := by
  intro p e s m args below meth c C H locs ls hl hP hS
  have hts := C.1.2.2.2.2
  have hw9 : ((st.map (pv_tr (pv_ad base b))).map fun v => v.category).sum ≤ 8 := by rw [pv_cats]; exact hw
  have hr := va_runV (C := y.cls) (b := base + k) (As := []) (rest := st.map (pv_tr (pv_ad base b))) (e := e) (below := below) (meth := meth) (locs := locs) (cells := cells) (slots := slots) (g := F0 m pc ls ((.ref (k + 1) :: st).map (pv_tr (pv_ad base b)))) C.1 hM ⟨callB_of 0 hts (pv_goodIn hB.1) rfl rfl rfl (hts _ hB.2.1) (hts _ hlk) hB.2.2 ⟨hR, hR2⟩, hts _ hin.1, hts _ hin.2⟩ ⟨(pv_blind (fun U g mk a h => h)), va_recv C.2.1.1 hP hcl (pv_w_get hre), fun U hU hW => ⟨rfl, C.2.1.moved hW, by rw [hU]; exact Nat.le_trans C.2.2.2.2.2.1 hS.1, trivial, by rw [hU]; exact hP⟩⟩ rfl rfl hl.1 rfl (lv_room hw9) hd ⟨hc, hs⟩
  refine va_callr hr hS (fun q _ h => h) (fun q h => h) (fun M1 ra t H1 locs1 ht hvm hpost hB1 hz1 hk1 hS1 => ?_)
  obtain ⟨rfl, hB2⟩ := hB1
  exact hpost p e s m args below meth c C H1 locs1 ls hl (ht ▸ hB2) hS1
theorem pv_callS1I {idx d nY : Nat} {y : MethodName} {cY : ByteArray} {rY : Option FieldType} {v1 : Value} (hd : decode cc pc = .ok (.invokestatic idx, 3)) (hM : pv_M l D ty base b d 0 0 (fun _ => True) y cY nY rY [v1] M (pv_QI D ty base b (fun r M1 => pv_V l D ty base b cc nL own ret nm R Ex Qf cells slots (pc + 3) L (.int r :: st) M1))) (hB : pv_SB y cY nY rY 1) (hlk : Cond.methodLink own idx y ∈ pv_T) (hst : Cond.static y ∈ pv_T) (hR : d + 1 ≤ R.frames) (hR2 : 8 + (nY + 11) + 40 * d ≤ R.locals) (hw : (st.map fun v => v.category).sum ≤ 8) (hc : cells ≤ R.cells) (hs : slots ≤ R.slots) : pv_V l D ty base b cc nL own ret nm R Ex Qf cells slots pc L (v1 :: st) M := by
  intro p e s m args below meth c C H locs ls hl hP hS
  have hts := C.1.2.2.2.2
  have hw9 : ((st.map (pv_tr (pv_ad base b))).map fun v => v.category).sum ≤ 8 := by rw [pv_cats]; exact hw
  have hr := va_runS (As := [pv_tr (pv_ad base b) v1]) (rest := st.map (pv_tr (pv_ad base b))) (e := e) (below := below) (meth := meth) (locs := locs) (cells := cells) (slots := slots) (g := F0 m pc ls ((v1 :: st).map (pv_tr (pv_ad base b)))) C.1 hM ⟨callB_of 1 hts (pv_goodIn hB.1) rfl rfl rfl (hts _ hB.2.1) (hts _ hlk) hB.2.2 ⟨hR, hR2⟩, hts _ hst⟩ ⟨(pv_blind (fun U g mk a h => h)), fun U hU hW => ⟨rfl, C.2.1.moved hW, by rw [hU]; exact Nat.le_trans C.2.2.2.2.2.1 hS.1, trivial, by rw [hU]; exact hP⟩⟩ rfl rfl hl.1 rfl (lv_room hw9) hd ⟨hc, hs⟩
  exact va_calli hr hS (fun q _ h => h) (fun q h => h) (fun r M1 t H1 locs1 ht hvm hpost hB1 hz1 hk1 hS1 => hpost p e s m args below meth c C H1 locs1 ls hl (ht ▸ hB1) hS1)
theorem pv_callS2I {idx d nY : Nat} {y : MethodName} {cY : ByteArray} {rY : Option FieldType} {v1 v2 : Value} (hd : decode cc pc = .ok (.invokestatic idx, 3)) (hM : pv_M l D ty base b d 0 0 (fun _ => True) y cY nY rY [v1, v2] M (pv_QI D ty base b (fun r M1 => pv_V l D ty base b cc nL own ret nm R Ex Qf cells slots (pc + 3) L (.int r :: st) M1))) (hB : pv_SB y cY nY rY 2) (hlk : Cond.methodLink own idx y ∈ pv_T) (hst : Cond.static y ∈ pv_T) (hR : d + 1 ≤ R.frames) (hR2 : 8 + (nY + 11) + 40 * d ≤ R.locals) (hw : (st.map fun v => v.category).sum ≤ 8) (hc : cells ≤ R.cells) (hs : slots ≤ R.slots) : pv_V l D ty base b cc nL own ret nm R Ex Qf cells slots pc L (v2 :: v1 :: st) M := by
  intro p e s m args below meth c C H locs ls hl hP hS
  have hts := C.1.2.2.2.2
  have hw9 : ((st.map (pv_tr (pv_ad base b))).map fun v => v.category).sum ≤ 8 := by rw [pv_cats]; exact hw
  have hr := va_runS (As := [pv_tr (pv_ad base b) v1, pv_tr (pv_ad base b) v2]) (rest := st.map (pv_tr (pv_ad base b))) (e := e) (below := below) (meth := meth) (locs := locs) (cells := cells) (slots := slots) (g := F0 m pc ls ((v2 :: v1 :: st).map (pv_tr (pv_ad base b)))) C.1 hM ⟨callB_of 2 hts (pv_goodIn hB.1) rfl rfl rfl (hts _ hB.2.1) (hts _ hlk) hB.2.2 ⟨hR, hR2⟩, hts _ hst⟩ ⟨(pv_blind (fun U g mk a h => h)), fun U hU hW => ⟨rfl, C.2.1.moved hW, by rw [hU]; exact Nat.le_trans C.2.2.2.2.2.1 hS.1, trivial, by rw [hU]; exact hP⟩⟩ rfl rfl hl.1 rfl (lv_room hw9) hd ⟨hc, hs⟩
  exact va_calli hr hS (fun q _ h => h) (fun q h => h) (fun r M1 t H1 locs1 ht hvm hpost hB1 hz1 hk1 hS1 => hpost p e s m args below meth c C H1 locs1 ls hl (ht ▸ hB1) hS1)
theorem pv_callSN2I {idx d nY : Nat} {y : MethodName} {cY : ByteArray} {rY : Option FieldType} {host : String} {v1 v2 : Value} (hd : decode cc pc = .ok (.invokestatic idx, 3)) (hM : pv_M l D ty base b d 0 0 (fun _ => True) y cY nY rY [v1, v2] M (pv_QI D ty base b (fun r M1 => pv_V l D ty base b cc nL own ret nm R Ex Qf cells slots (pc + 3) L (.int r :: st) M1))) (hB : pv_SB y cY nY rY 2) (hlk : (own, idx, y, host) ∈ pv_N) (hst : Cond.static y ∈ pv_T) (hR : d + 1 ≤ R.frames) (hR2 : 8 + (nY + 11) + 40 * d ≤ R.locals) (hw : (st.map fun v => v.category).sum ≤ 8) (hc : cells ≤ R.cells) (hs : slots ≤ R.slots) : pv_V l D ty base b cc nL own ret nm R Ex Qf cells slots pc L (v2 :: v1 :: st) M := by
  intro p e s m args below meth c C H locs ls hl hP hS
  have hts := C.1.2.2.2.2
  have hw9 : ((st.map (pv_tr (pv_ad base b))).map fun v => v.category).sum ≤ 8 := by rw [pv_cats]; exact hw
  have hr := va_runSN (As := [pv_tr (pv_ad base b) v1, pv_tr (pv_ad base b) v2]) (rest := st.map (pv_tr (pv_ad base b))) (e := e) (below := below) (meth := meth) (locs := locs) (cells := cells) (slots := slots) (g := F0 m pc ls ((v2 :: v1 :: st).map (pv_tr (pv_ad base b)))) C.1 hM ⟨va_cnB (host := host) 2 hts (pv_goodIn hB.1) rfl rfl rfl (C.2.1.2.2.2 _ hlk) (hts _ hB.2.1) hB.2.2 ⟨hR, hR2⟩, hts _ hst, trivial⟩ ⟨(pv_blind (fun U g mk a h => h)), fun U hU hW => ⟨rfl, C.2.1.moved hW, by rw [hU]; exact Nat.le_trans C.2.2.2.2.2.1 hS.1, trivial, by rw [hU]; exact hP⟩⟩ rfl rfl hl.1 rfl (lv_room hw9) hd ⟨hc, hs⟩
  exact va_calli hr hS (fun q _ h => h) (fun q h => h) (fun r M1 t H1 locs1 ht hvm hpost hB1 hz1 hk1 hS1 => hpost p e s m args below meth c C H1 locs1 ls hl (ht ▸ hB1) hS1)
theorem pv_callI0V {k idx d mc ms nY : Nat} {y : MethodName} {cY : ByteArray} (hd : decode cc pc = .ok (.invokespecial idx, 3)) (hM : pv_M l D ty base b d mc ms (fun U => U.heap.size = base + M.length) y cY nY none [.ref (k + 1)] M (pv_QV D ty base b (fun M1 => pv_V l D ty base b cc nL own ret nm R Ex Qf (cells + mc) (slots + ms) (pc + 3) L st M1))) (hB : pv_SB y cY nY none 0) (hlk : Cond.methodLink own idx y ∈ pv_T) {n0 : Nat} (hE : ∀ s, Ex s → s.heap.size = base + n0) (hc0 : n0 + cells = M.length) (hin : Cond.instanceMethod y ∈ pv_T) (hy1 : y.name = "<init>") (hR : d + 1 ≤ R.frames) (hR2 : 8 + (nY + 11) + 40 * d ≤ R.locals) (hw : (st.map fun v => v.category).sum ≤ 8) (hc : cells + mc ≤ R.cells) (hs : slots + ms ≤ R.slots) : pv_V l D ty base b cc nL own ret nm R Ex Qf cells slots pc L (.ref (k + 1) :: st) M := by
  intro p e s m args below meth c C H locs ls hl hP hS
  have hts := C.1.2.2.2.2
  have hw9 : ((st.map (pv_tr (pv_ad base b))).map fun v => v.category).sum ≤ 8 := by rw [pv_cats]; exact hw
  refine pv_sized (hE s C.2.2.2.2.2.2) hc0 hP hS (fun hz => ?_)
  have hr := va_runI (b := base + k) (As := []) (rest := st.map (pv_tr (pv_ad base b))) (e := e) (below := below) (meth := meth) (locs := locs) (cells := cells) (slots := slots) (g := F0 m pc ls ((.ref (k + 1) :: st).map (pv_tr (pv_ad base b)))) C.1 hM ⟨callB_of 0 hts (pv_goodIn hB.1) rfl rfl rfl (hts _ hB.2.1) (hts _ hlk) hB.2.2 ⟨hR, hR2⟩, hy1, hts _ hin⟩ ⟨(pv_blind (fun U g mk a h => h)), fun U hU hW => ⟨rfl, C.2.1.moved hW, by rw [hU]; exact Nat.le_trans C.2.2.2.2.2.1 hS.1, by show U.heap.size = _; rw [hU]; exact hz, by rw [hU]; exact hP⟩⟩ rfl rfl hl.1 rfl (lv_room hw9) hd ⟨hc, hs⟩
  exact va_callv hr hS (fun q _ h => h) (fun q h => h) (fun M1 t H1 locs1 ht hvm hpost hB1 hz1 hk1 hS1 => hpost p e s m args below meth c C H1 locs1 ls hl (ht ▸ hB1) hS1)
theorem pv_callI1V {k idx d mc ms nY : Nat} {y : MethodName} {cY : ByteArray} {v1 : Value} (hd : decode cc pc = .ok (.invokespecial idx, 3)) (hM : pv_M l D ty base b d mc ms (fun U => U.heap.size = base + M.length) y cY nY none [.ref (k + 1), v1] M (pv_QV D ty base b (fun M1 => pv_V l D ty base b cc nL own ret nm R Ex Qf (cells + mc) (slots + ms) (pc + 3) L st M1))) (hB : pv_SB y cY nY none 1) (hlk : Cond.methodLink own idx y ∈ pv_T) {n0 : Nat} (hE : ∀ s, Ex s → s.heap.size = base + n0) (hc0 : n0 + cells = M.length) (hin : Cond.instanceMethod y ∈ pv_T) (hy1 : y.name = "<init>") (hR : d + 1 ≤ R.frames) (hR2 : 8 + (nY + 11) + 40 * d ≤ R.locals) (hw : (st.map fun v => v.category).sum ≤ 8) (hc : cells + mc ≤ R.cells) (hs : slots + ms ≤ R.slots) : pv_V l D ty base b cc nL own ret nm R Ex Qf cells slots pc L (v1 :: .ref (k + 1) :: st) M := by
  intro p e s m args below meth c C H locs ls hl hP hS
  have hts := C.1.2.2.2.2
  have hw9 : ((st.map (pv_tr (pv_ad base b))).map fun v => v.category).sum ≤ 8 := by rw [pv_cats]; exact hw
  refine pv_sized (hE s C.2.2.2.2.2.2) hc0 hP hS (fun hz => ?_)
  have hr := va_runI (b := base + k) (As := [pv_tr (pv_ad base b) v1]) (rest := st.map (pv_tr (pv_ad base b))) (e := e) (below := below) (meth := meth) (locs := locs) (cells := cells) (slots := slots) (g := F0 m pc ls ((v1 :: .ref (k + 1) :: st).map (pv_tr (pv_ad base b)))) C.1 hM ⟨callB_of 1 hts (pv_goodIn hB.1) rfl rfl rfl (hts _ hB.2.1) (hts _ hlk) hB.2.2 ⟨hR, hR2⟩, hy1, hts _ hin⟩ ⟨(pv_blind (fun U g mk a h => h)), fun U hU hW => ⟨rfl, C.2.1.moved hW, by rw [hU]; exact Nat.le_trans C.2.2.2.2.2.1 hS.1, by show U.heap.size = _; rw [hU]; exact hz, by rw [hU]; exact hP⟩⟩ rfl rfl hl.1 rfl (lv_room hw9) hd ⟨hc, hs⟩
  exact va_callv hr hS (fun q _ h => h) (fun q h => h) (fun M1 t H1 locs1 ht hvm hpost hB1 hz1 hk1 hS1 => hpost p e s m args below meth c C H1 locs1 ls hl (ht ▸ hB1) hS1)
theorem pv_new {idx ci N n0 : Nat} {C0 : String} {T : u_T} {fs : List Value} (hE : ∀ s, Ex s → s.heap.size = base + n0) (hc0 : n0 + cells = M.length) (hcl : pv_cl[ci]? = some (C0, T, N)) (hin : ∀ w ∈ u_ws C0 T N, w ∈ pv_T) (t0 : Nat → FieldType) (hty : ∀ k, k < N → parseFieldDescriptor (T k).2.2.1 = some (t0 k)) (hlink : Cond.classLink own idx C0 ∈ pv_T) (hinst : Cond.instantiable C0 N ∈ pv_T) (hini : Cond.initialized C0 ∈ pv_T) (hfs : ∀ j, j < N → defaultValue (t0 j) = vp_V fs j) (hft : ∀ ad, fs.map (pv_tr ad) = fs) (hc : cells + 1 ≤ R.cells) (hs : slots + N ≤ R.slots) (hd : decode cc pc = .ok (.new idx, 3))
    (kk : pv_V l D ty base b cc nL own ret nm R Ex Qf (cells + 1) (slots + N) (pc + 3) L (.ref (M.length + 1) :: st) (M ++ [.inr (ci, fs)])) : pv_V l D ty base b cc nL own ret nm R Ex Qf cells slots pc L st M := by
  intro p e s m args below meth c C H locs ls hl hP hS
  have hts := C.1.2.2.2.2
  refine va_new C.1.1 C.1.2.1 hts hin t0 hty C.1.2.2.2.1 (hts _ hlink) (hts _ hinst) (hts _ hini) C.2.1.1 hP pv_D hS (fun q h => Nat.le_trans C.2.2.2.2.2.1 h) hcl hfs hc hs hd (fun q H1 hP1 hD1 hS1 => ?_)
  intro T9 hT X
  have hz := X.heapSize
  rw [hT, hE s C.2.2.2.2.2.2] at hz
  have hq := pv_fresh hP1 hD1 (by omega)
  subst hq
  refine kk p e s m args below meth c C H1 locs ls hl ?_ hS1 T9 hT X
  rw [pv_w_push]
  show va_P D pv_cl (_ ++ [(_, .inr (ci, fs.map (pv_tr (pv_ad base b))))]) H1
  rw [hft]
  exact hP1
theorem pv_newa {t n n0 : Nat} {atype : ArrayType} {fty : FieldType} (x0 : (Nat → Int32) ⊕ (Nat → Int64) ⊕ (Nat → UInt32) ⊕ (Nat → UInt64) ⊕ (Nat → Option Nat)) (hE : ∀ s, Ex s → s.heap.size = base + n0) (hc0 : n0 + cells = M.length) (harr : Cond.arrayClass (newarray.typeOf atype) ∈ pv_T) (hty : newarray.typeOf atype = fty) (htt : ∀ ty, (pv_tys ty)[t]? = some (ty t, fty)) (ha : ∀ cA : ClassId, vp_cell cA (n, x0) = arrV cA n (fun _ => defaultValue fty)) (hx0 : ∀ ad, pv_ta ad x0 = x0) (hn : n < 2 ^ 31) (hbytes : n * componentBytes fty ≤ 536870912) (hc : cells + 1 ≤ R.cells) (hs : slots + n ≤ R.slots) (hd : decode cc pc = .ok (.newarray atype, 2))
    (kk : pv_V l D ty base b cc nL own ret nm R Ex Qf (cells + 1) (slots + n) (pc + 2) L (.ref (M.length + 1) :: st) (M ++ [.inl (t, n, x0)])) : pv_V l D ty base b cc nL own ret nm R Ex Qf cells slots pc L (.int (nI n) :: st) M := by
  intro p e s m args below meth c C H locs ls hl hP hS
  have hts := C.1.2.2.2.2
  refine va_newa C.1.1 C.1.2.1 (hts _ harr) hty C.2.1.1 hP pv_D hS (fun q h => Nat.le_trans C.2.2.2.2.2.1 h) ha (nI_pos hn) (nI_clamp hn) hbytes hc hs hd (fun q cA H1 hK1 hP1 hD1 hS1 => ?_)
  have hcA : cA = ty t := by
    have h1 : va_RA s cA fty := (hK1.2 (pv_tys ty).length (cA, fty) (by rw [List.getElem?_append_right (Nat.le_refl _), Nat.sub_self]; rfl)).2
    exact pv_RA_inj h1 (C.2.1.1.2 t _ (htt ty)).2
  subst hcA
  intro T9 hT X
  have hz := X.heapSize
  rw [hT, hE s C.2.2.2.2.2.2] at hz
  have hq := pv_fresh hP1 hD1 (by omega)
  subst hq
  refine kk p e s m args below meth c C H1 locs ls hl ?_ hS1 T9 hT X
  rw [pv_w_push]
  show va_P D pv_cl (_ ++ [(_, .inl (ty t, n, pv_ta (pv_ad base b) x0))]) H1
  rw [hx0]
  exact hP1
theorem pv_newq3 {n n0 idx : Nat} (hE : ∀ s, Ex s → s.heap.size = base + n0) (hc0 : n0 + cells = M.length) (hlink : Cond.classLink own idx pv_RN ∈ pv_T) (hn : n < 2 ^ 31) (hbytes : n * 4 ≤ 536870912) (hc : cells + 1 ≤ R.cells) (hs : slots + n ≤ R.slots) (hd : decode cc pc = .ok (.anewarray idx, 3))
    (kk : pv_V l D ty base b cc nL own ret nm R Ex Qf (cells + 1) (slots + n) (pc + 3) L (.ref (M.length + 1) :: st) (M ++ [.inl (3, n, .inr (.inr (.inr (.inr (fun _ => none)))))])) : pv_V l D ty base b cc nL own ret nm R Ex Qf cells slots pc L (.int (nI n) :: st) M := by
  intro p e s m args below meth c C H locs ls hl hP hS
  have hts := C.1.2.2.2.2
  refine va_newq (C := pv_RN) C.1.1 C.1.2.1 C.1.2.2.2.1 (hts _ hlink) C.2.1.2.1 C.2.1.1 hP pv_D hS (fun q h => Nat.le_trans C.2.2.2.2.2.1 h) (nI_pos hn) (nI_clamp hn) hbytes hc hs hd (fun q cA H1 hK1 hP1 hD1 hS1 => ?_)
  have hcA : cA = ty 3 := by
    have h1 : va_RA s cA (.object pv_RN) := (hK1.2 (pv_tys ty).length (cA, .object pv_RN) (by rw [List.getElem?_append_right (Nat.le_refl _), Nat.sub_self]; rfl)).2
    exact pv_RA_inj h1 (C.2.1.1.2 3 _ rfl).2
  subst hcA
  intro T9 hT X
  have hz := X.heapSize
  rw [hT, hE s C.2.2.2.2.2.2] at hz
  have hq := pv_fresh hP1 hD1 (by omega)
  subst hq
  refine kk p e s m args below meth c C H1 locs ls hl ?_ hS1 T9 hT X
  rw [pv_w_push]
  exact hP1
theorem pv_newq4 {n n0 idx : Nat} (hE : ∀ s, Ex s → s.heap.size = base + n0) (hc0 : n0 + cells = M.length) (hlink : Cond.classLink own idx pv_RR ∈ pv_T) (hn : n < 2 ^ 31) (hbytes : n * 4 ≤ 536870912) (hc : cells + 1 ≤ R.cells) (hs : slots + n ≤ R.slots) (hd : decode cc pc = .ok (.anewarray idx, 3))
    (kk : pv_V l D ty base b cc nL own ret nm R Ex Qf (cells + 1) (slots + n) (pc + 3) L (.ref (M.length + 1) :: st) (M ++ [.inl (4, n, .inr (.inr (.inr (.inr (fun _ => none)))))])) : pv_V l D ty base b cc nL own ret nm R Ex Qf cells slots pc L (.int (nI n) :: st) M := by
  intro p e s m args below meth c C H locs ls hl hP hS
  have hts := C.1.2.2.2.2
  refine va_newq (C := pv_RR) C.1.1 C.1.2.1 C.1.2.2.2.1 (hts _ hlink) C.2.1.2.2.1 C.2.1.1 hP pv_D hS (fun q h => Nat.le_trans C.2.2.2.2.2.1 h) (nI_pos hn) (nI_clamp hn) hbytes hc hs hd (fun q cA H1 hK1 hP1 hD1 hS1 => ?_)
  have hcA : cA = ty 4 := by
    have h1 : va_RA s cA (.object pv_RR) := (hK1.2 (pv_tys ty).length (cA, .object pv_RR) (by rw [List.getElem?_append_right (Nat.le_refl _), Nat.sub_self]; rfl)).2
    exact pv_RA_inj h1 (C.2.1.1.2 4 _ rfl).2
  subst hcA
  intro T9 hT X
  have hz := X.heapSize
  rw [hT, hE s C.2.2.2.2.2.2] at hz
  have hq := pv_fresh hP1 hD1 (by omega)
  subst hq
  refine kk p e s m args below meth c C H1 locs ls hl ?_ hS1 T9 hT X
  rw [pv_w_push]
  exact hP1
theorem pv_objInit {idx : Nat} {x : Nat} (hlk : Cond.methodLink own idx objectInit ∈ pv_T) (hin : Cond.instanceMethod objectInit ∈ pv_T) (hco : Cond.code objectInit ⟨#[0xb1]⟩ 1 none ∈ pv_T) (hR : 1 ≤ R.frames) (hR2 : 20 ≤ R.locals) (hw : (st.map fun v => v.category).sum ≤ 8) (hd : decode cc pc = .ok (.invokespecial idx, 3)) (kk : pv_V l D ty base b cc nL own ret nm R Ex Qf cells slots (pc + 3) L st M) : pv_V l D ty base b cc nL own ret nm R Ex Qf cells slots pc L (.ref x :: st) M := by
  intro p e s m args below meth c C H locs ls hl hP hS
  have hts := C.1.2.2.2.2
  have hw9 : ((st.map (pv_tr (pv_ad base b))).map fun v => v.category).sum ≤ 8 := by rw [pv_cats]; exact hw
  refine W.objInit C.1.1 C.1.2.1 C.1.2.2.2.1 (hts _ hlk) (hts _ hin) (hts _ hco) rfl (by rw [C.1.2.2.1]; exact hl.1) rfl hd hR (by show _ ≤ R.locals; simp only [F0]; omega) (kk p e s m args below meth c C H locs ls hl hP hS)
theorem pv_mmax {idx : Nat} {x y : Int32} (hlk : Cond.methodLink own idx Lib.Math.max.name ∈ pv_T) (hst : Cond.static Lib.Math.max.name ∈ pv_T) (hini : Cond.initialized "java/lang/Math" ∈ pv_T) (hco : Cond.code Lib.Math.max.name Lib.Math.max.code 2 (some .int) ∈ pv_T) (hR : 1 ≤ R.frames) (hR2 : 21 ≤ R.locals) (hw : (st.map fun v => v.category).sum ≤ 8) (hc : cells ≤ R.cells) (hs : slots ≤ R.slots) (hd : decode cc pc = .ok (.invokestatic idx, 3)) (kk : pv_V l D ty base b cc nL own ret nm R Ex Qf cells slots (pc + 3) L (.int (if x < y then y else x) :: st) M) : pv_V l D ty base b cc nL own ret nm R Ex Qf cells slots pc L (.int y :: .int x :: st) M := by
  intro p e s m args below meth c C H locs ls hl hP hS
  have hts := C.1.2.2.2.2
  have hw9 : ((st.map (pv_tr (pv_ad base b))).map fun v => v.category).sum ≤ 8 := by rw [pv_cats]; exact hw
  exact va_mmax C.1.1 C.1.2.1 (C.1.2.2.1.trans hl.1.symm) C.1.2.2.2.1 (hts _ hlk) (hts _ hst) (hts _ hini) (hts _ hco) hR (by omega) hc hs hd (kk p e s m args below meth c C H locs ls hl hP hS)
theorem pv_mmin {idx : Nat} {x y : Int32} (hlk : Cond.methodLink own idx Lib.Math.min.name ∈ pv_T) (hst : Cond.static Lib.Math.min.name ∈ pv_T) (hini : Cond.initialized "java/lang/Math" ∈ pv_T) (hco : Cond.code Lib.Math.min.name Lib.Math.min.code 2 (some .int) ∈ pv_T) (hR : 1 ≤ R.frames) (hR2 : 21 ≤ R.locals) (hw : (st.map fun v => v.category).sum ≤ 8) (hc : cells ≤ R.cells) (hs : slots ≤ R.slots) (hd : decode cc pc = .ok (.invokestatic idx, 3)) (kk : pv_V l D ty base b cc nL own ret nm R Ex Qf cells slots (pc + 3) L (.int (if y < x then y else x) :: st) M) : pv_V l D ty base b cc nL own ret nm R Ex Qf cells slots pc L (.int y :: .int x :: st) M := by
  intro p e s m args below meth c C H locs ls hl hP hS
  have hts := C.1.2.2.2.2
  have hw9 : ((st.map (pv_tr (pv_ad base b))).map fun v => v.category).sum ≤ 8 := by rw [pv_cats]; exact hw
  exact va_mmin C.1.1 C.1.2.1 (C.1.2.2.1.trans hl.1.symm) C.1.2.2.2.1 (hts _ hlk) (hts _ hst) (hts _ hini) (hts _ hco) hR (by omega) hc hs hd (kk p e s m args below meth c C H locs ls hl hP hS)
theorem pv_tswIn {dflt lo hi : Int} {offs : Array Int} {len : Nat} {x : Int32} {off : Int} (tgt : Nat) (hd : decode cc pc = .ok (.tableswitch dflt lo hi offs, len)) (h1 : ¬ x.toInt < lo) (h2 : ¬ hi < x.toInt) (ho : offs[(x.toInt - lo).toNat]? = some off) (ht : (pc : Int) + off = (tgt : Int)) (k : pv_V l D ty base b cc nL own ret nm R Ex Qf cells slots tgt L st M) : pv_V l D ty base b cc nL own ret nm R Ex Qf cells slots pc L (.int x :: st) M :=
  fun p e s m args below meth c C H locs ls hl hP hS => lv_tableIn C.1.1 C.1.2.1 hd h1 h2 ho ht (k p e s m args below meth c C H locs ls hl hP hS)
theorem pv_tswOut {dflt lo hi : Int} {offs : Array Int} {len : Nat} {x : Int32} (tgt : Nat) (hd : decode cc pc = .ok (.tableswitch dflt lo hi offs, len)) (h : x.toInt < lo ∨ hi < x.toInt) (ht : (pc : Int) + dflt = (tgt : Int)) (k : pv_V l D ty base b cc nL own ret nm R Ex Qf cells slots tgt L st M) : pv_V l D ty base b cc nL own ret nm R Ex Qf cells slots pc L (.int x :: st) M :=
  fun p e s m args below meth c C H locs ls hl hP hS => lv_tableOut C.1.1 C.1.2.1 hd h ht (k p e s m args below meth c C H locs ls hl hP hS)
end PVC
end
section
/-! 04.world: the cells of the class (40) and of the reference (21) as functions of a state -/
section WORLD
def sU (σ : Nat → Nat → Nat) (f i v : Nat) : Nat → Nat → Nat := fun g j => if g = f ∧ j = i then v else σ g j
theorem sU_same {σ : Nat → Nat → Nat} {f i v : Nat} : sU σ f i v f i = v := if_pos ⟨rfl, rfl⟩
theorem sU_ne {σ : Nat → Nat → Nat} {f i v g j : Nat} (h : ¬ (g = f ∧ j = i)) : sU σ f i v g j = σ g j := if_neg h
theorem sU_nef {σ : Nat → Nat → Nat} {f i v g j : Nat} (h : g ≠ f) : sU σ f i v g j = σ g j := if_neg (fun q => h q.1)
theorem sU_nei {σ : Nat → Nat → Nat} {f i v g j : Nat} (h : j ≠ i) : sU σ f i v g j = σ g j := if_neg (fun q => h q.2)
def pN (n : Nat) : Nat := 2 + 3 * n
def pR (r : Nat) : Nat := 18 + 3 * r
def xp (v : Nat) : Option Nat := match v with
  | 0 => none
  | r + 1 => some (pR r)
def xOf (σ : Nat → Nat → Nat) (i : Nat) : List Value := [.ref (1 + 1), .ref (17 + 1), .ref (36 + 1), .int (nI (σ 0 0))]
def xO (σ : Nat → Nat → Nat) (i : Nat) : va_E := .inr (3, xOf σ i)
def xNf (σ : Nat → Nat → Nat) (i : Nat) : List Value := [.int (nI i), .ref (3 + 3 * i + 1), .ref (4 + 3 * i + 1), pv_p (xp (σ 1 i)), .long (lN (σ 2 i)), .int (nI (σ 3 i)), .int (nI (σ 4 i)), .int (nI (σ 5 i)), .int (nI (σ 6 i)), .int (nI (σ 7 i)), .int (nI (σ 8 i)), .int (nI (σ 9 i))]
def xN (σ : Nat → Nat → Nat) (i : Nat) : va_E := .inr (1, xNf σ i)
def xRf (σ : Nat → Nat → Nat) (i : Nat) : List Value := [.ref (19 + 3 * i + 1), .ref (20 + 3 * i + 1), .int (nI (σ 10 i)), .int (nI (σ 11 i)), .int (nI (σ 12 i) - 1), .int (nI (σ 13 i)), .long (lN (σ 14 i))]
def xR (σ : Nat → Nat → Nat) (i : Nat) : va_E := .inr (2, xRf σ i)
def xMf (σ : Nat → Nat → Nat) (i : Nat) : List Value := [.ref (37 + 1), .ref (38 + 1), .ref (39 + 1), .int (nI (σ 15 0))]
def xM (σ : Nat → Nat → Nat) (i : Nat) : va_E := .inr (0, xMf σ i)
def xYf (σ : Nat → Nat → Nat) (i : Nat) : List Value := [.ref (41 + 1), .ref (42 + 1), .ref (43 + 1), .ref (44 + 1), .ref (45 + 1), .ref (46 + 1), .ref (47 + 1), .ref (48 + 1), .ref (49 + 1), .ref (50 + 1), .int (nI (σ 10 0)), .ref (51 + 1), .ref (52 + 1), .ref (53 + 1), .ref (54 + 1), .ref (55 + 1), .int (nI (σ 16 0)), .ref (56 + 1), .ref (57 + 1), .ref (58 + 1), .ref (59 + 1), .ref (60 + 1)]
def xY (σ : Nat → Nat → Nat) (i : Nat) : va_E := .inr (4, xYf σ i)
def xNs : va_E := .inl (3, 5, .inr (.inr (.inr (.inr (fun j => if j < 5 then some (pN j + 1) else none)))))
def xRs : va_E := .inl (4, 6, .inr (.inr (.inr (.inr (fun j => if j < 6 then some (pR j + 1) else none)))))
def xa_queue (σ : Nat → Nat → Nat) (i : Nat) : va_E := .inl (0, 8, .inl (fun j => nI (σ (20 + i) j)))
def xa_entries (σ : Nat → Nat → Nat) (i : Nat) : va_E := .inl (0, 48, .inl (fun j => nI (σ (30 + i) j)))
def xa_messageAt (σ : Nat → Nat → Nat) (i : Nat) : va_E := .inl (0, 49, .inl (fun j => nI (σ (40 + i) j)))
def xa_marks (σ : Nat → Nat → Nat) (i : Nat) : va_E := .inl (0, 5, .inl (fun j => nI (σ (50 + i) j)))
def xa_origins (σ : Nat → Nat → Nat) (i : Nat) : va_E := .inl (0, 49, .inl (fun j => nI (σ (60) j)))
def xa_safe (σ : Nat → Nat → Nat) (i : Nat) : va_E := .inl (1, 49, .inl (fun j => nI (σ (61) j)))
def xa_stamps (σ : Nat → Nat → Nat) (i : Nat) : va_E := .inl (0, 49, .inl (fun j => nI (σ (62) j)))
def ya_up (σ : Nat → Nat → Nat) : va_E := .inl (1, 5, .inl (fun j => nI (σ 0 j)))
def ya_area (σ : Nat → Nat → Nat) : va_E := .inl (0, 5, .inl (fun j => nI (σ 1 j)))
def ya_ringOf (σ : Nat → Nat → Nat) : va_E := .inl (0, 5, .inl (fun j => nI (σ 2 j)))
def ya_lineOf (σ : Nat → Nat → Nat) : va_E := .inl (0, 5, .inl (fun j => nI (σ 3 j)))
def ya_placeOf (σ : Nat → Nat → Nat) : va_E := .inl (0, 5, .inl (fun j => nI (σ 4 j)))
def ya_deaf (σ : Nat → Nat → Nat) : va_E := .inl (0, 5, .inl (fun j => nI (σ 5 j)))
def ya_timer (σ : Nat → Nat → Nat) : va_E := .inl (0, 5, .inl (fun j => nI (σ 6 j)))
def ya_hold (σ : Nat → Nat → Nat) : va_E := .inl (1, 245, .inl (fun j => nI (σ 7 j)))
def ya_logs (σ : Nat → Nat → Nat) : va_E := .inl (0, 240, .inl (fun j => nI (σ 8 j)))
def ya_entries (σ : Nat → Nat → Nat) : va_E := .inl (0, 5, .inl (fun j => nI (σ 9 j)))
def ya_origin (σ : Nat → Nat → Nat) : va_E := .inl (0, 49, .inl (fun j => nI (σ 11 j)))
def ya_isSafe (σ : Nat → Nat → Nat) : va_E := .inl (1, 49, .inl (fun j => nI (σ 12 j)))
def ya_gone (σ : Nat → Nat → Nat) : va_E := .inl (1, 49, .inl (fun j => nI (σ 13 j)))
def ya_ringIn (σ : Nat → Nat → Nat) : va_E := .inl (0, 49, .inl (fun j => nI (σ 14 j)))
def ya_number (σ : Nat → Nat → Nat) : va_E := .inl (0, 49, .inl (fun j => nI (σ 15 j)))
def ya_at (σ : Nat → Nat → Nat) : va_E := .inl (0, 520, .inl (fun j => nI (σ 17 j) - 1))
def ya_latest (σ : Nat → Nat → Nat) : va_E := .inl (0, 520, .inl (fun j => nI (σ 18 j)))
def ya_memberBits (σ : Nat → Nat → Nat) : va_E := .inl (0, 520, .inl (fun j => nI (σ 19 j)))
def ya_marks (σ : Nat → Nat → Nat) : va_E := .inl (0, 2600, .inl (fun j => nI (σ 20 j)))
def ya_wanted (σ : Nat → Nat → Nat) : va_E := .inl (2, 520, .inr (.inl (fun j => lN (σ 21 j))))
def memX (σ : Nat → Nat → Nat) : List va_E := [xO σ 0, xNs, xN σ 0, xa_queue σ 0, xa_entries σ 0, xN σ 1, xa_queue σ 1, xa_entries σ 1, xN σ 2, xa_queue σ 2, xa_entries σ 2, xN σ 3, xa_queue σ 3, xa_entries σ 3, xN σ 4, xa_queue σ 4, xa_entries σ 4, xRs, xR σ 0, xa_messageAt σ 0, xa_marks σ 0, xR σ 1, xa_messageAt σ 1, xa_marks σ 1, xR σ 2, xa_messageAt σ 2, xa_marks σ 2, xR σ 3, xa_messageAt σ 3, xa_marks σ 3, xR σ 4, xa_messageAt σ 4, xa_marks σ 4, xR σ 5, xa_messageAt σ 5, xa_marks σ 5, xM σ 0, xa_origins σ 0, xa_safe σ 0, xa_stamps σ 0]
def memY (σ : Nat → Nat → Nat) : List va_E := [xY σ 0, ya_up σ, ya_area σ, ya_ringOf σ, ya_lineOf σ, ya_placeOf σ, ya_deaf σ, ya_timer σ, ya_hold σ, ya_logs σ, ya_entries σ, ya_origin σ, ya_isSafe σ, ya_gone σ, ya_ringIn σ, ya_number σ, ya_at σ, ya_latest σ, ya_memberBits σ, ya_marks σ, ya_wanted σ]
variable {σ : Nat → Nat → Nat} {ρ ξ : List va_E}
theorem gx_O : (memX σ ++ ρ)[0]? = some (xO σ 0) := rfl
theorem gx_Ns : (memX σ ++ ρ)[1]? = some xNs := rfl
theorem gx_Rs : (memX σ ++ ρ)[17]? = some xRs := rfl
theorem gx_M : (memX σ ++ ρ)[36]? = some (xM σ 0) := rfl
theorem gx_N {i : Nat} (hi : i < 5) : (memX σ ++ ρ)[pN i]? = some (xN σ i) := match i, hi with
  | 0, _ => rfl
  | 1, _ => rfl
  | 2, _ => rfl
  | 3, _ => rfl
  | 4, _ => rfl
  | k + 5, h => absurd h (by omega)
theorem gx_R {i : Nat} (hi : i < 6) : (memX σ ++ ρ)[pR i]? = some (xR σ i) := match i, hi with
  | 0, _ => rfl
  | 1, _ => rfl
  | 2, _ => rfl
  | 3, _ => rfl
  | 4, _ => rfl
  | 5, _ => rfl
  | k + 6, h => absurd h (by omega)
theorem gx_queue {i : Nat} (hi : i < 5) : (memX σ ++ ρ)[3 + 3 * i]? = some (xa_queue σ i) := match i, hi with
  | 0, _ => rfl
  | 1, _ => rfl
  | 2, _ => rfl
  | 3, _ => rfl
  | 4, _ => rfl
  | k + 5, h => absurd h (by omega)
theorem gx_entries {i : Nat} (hi : i < 5) : (memX σ ++ ρ)[4 + 3 * i]? = some (xa_entries σ i) := match i, hi with
  | 0, _ => rfl
  | 1, _ => rfl
  | 2, _ => rfl
  | 3, _ => rfl
  | 4, _ => rfl
  | k + 5, h => absurd h (by omega)
theorem gx_messageAt {i : Nat} (hi : i < 6) : (memX σ ++ ρ)[19 + 3 * i]? = some (xa_messageAt σ i) := match i, hi with
  | 0, _ => rfl
  | 1, _ => rfl
  | 2, _ => rfl
  | 3, _ => rfl
  | 4, _ => rfl
  | 5, _ => rfl
  | k + 6, h => absurd h (by omega)
theorem gx_marks {i : Nat} (hi : i < 6) : (memX σ ++ ρ)[20 + 3 * i]? = some (xa_marks σ i) := match i, hi with
  | 0, _ => rfl
  | 1, _ => rfl
  | 2, _ => rfl
  | 3, _ => rfl
  | 4, _ => rfl
  | 5, _ => rfl
  | k + 6, h => absurd h (by omega)
theorem gx_origins : (memX σ ++ ρ)[37]? = some (xa_origins σ 0) := rfl
theorem gx_safe : (memX σ ++ ρ)[38]? = some (xa_safe σ 0) := rfl
theorem gx_stamps : (memX σ ++ ρ)[39]? = some (xa_stamps σ 0) := rfl
theorem gy_0 {k : Nat} (hξ : ξ.length = 40) : (ξ ++ memY σ)[40 + k]? = (memY σ)[k]? := by
  rw [List.getElem?_append_right (by omega), hξ, Nat.add_sub_cancel_left]
theorem gy_Y (hξ : ξ.length = 40) : (ξ ++ memY σ)[40]? = some (xY σ 0) := gy_0 (k := 0) hξ
theorem gy_up (hξ : ξ.length = 40) : (ξ ++ memY σ)[41]? = some (ya_up σ) := gy_0 (k := 1) hξ
theorem gy_area (hξ : ξ.length = 40) : (ξ ++ memY σ)[42]? = some (ya_area σ) := gy_0 (k := 2) hξ
theorem gy_ringOf (hξ : ξ.length = 40) : (ξ ++ memY σ)[43]? = some (ya_ringOf σ) := gy_0 (k := 3) hξ
theorem gy_lineOf (hξ : ξ.length = 40) : (ξ ++ memY σ)[44]? = some (ya_lineOf σ) := gy_0 (k := 4) hξ
theorem gy_placeOf (hξ : ξ.length = 40) : (ξ ++ memY σ)[45]? = some (ya_placeOf σ) := gy_0 (k := 5) hξ
theorem gy_deaf (hξ : ξ.length = 40) : (ξ ++ memY σ)[46]? = some (ya_deaf σ) := gy_0 (k := 6) hξ
theorem gy_timer (hξ : ξ.length = 40) : (ξ ++ memY σ)[47]? = some (ya_timer σ) := gy_0 (k := 7) hξ
theorem gy_hold (hξ : ξ.length = 40) : (ξ ++ memY σ)[48]? = some (ya_hold σ) := gy_0 (k := 8) hξ
theorem gy_logs (hξ : ξ.length = 40) : (ξ ++ memY σ)[49]? = some (ya_logs σ) := gy_0 (k := 9) hξ
theorem gy_entries (hξ : ξ.length = 40) : (ξ ++ memY σ)[50]? = some (ya_entries σ) := gy_0 (k := 10) hξ
theorem gy_origin (hξ : ξ.length = 40) : (ξ ++ memY σ)[51]? = some (ya_origin σ) := gy_0 (k := 11) hξ
theorem gy_isSafe (hξ : ξ.length = 40) : (ξ ++ memY σ)[52]? = some (ya_isSafe σ) := gy_0 (k := 12) hξ
theorem gy_gone (hξ : ξ.length = 40) : (ξ ++ memY σ)[53]? = some (ya_gone σ) := gy_0 (k := 13) hξ
theorem gy_ringIn (hξ : ξ.length = 40) : (ξ ++ memY σ)[54]? = some (ya_ringIn σ) := gy_0 (k := 14) hξ
theorem gy_number (hξ : ξ.length = 40) : (ξ ++ memY σ)[55]? = some (ya_number σ) := gy_0 (k := 15) hξ
theorem gy_at (hξ : ξ.length = 40) : (ξ ++ memY σ)[56]? = some (ya_at σ) := gy_0 (k := 16) hξ
theorem gy_latest (hξ : ξ.length = 40) : (ξ ++ memY σ)[57]? = some (ya_latest σ) := gy_0 (k := 17) hξ
theorem gy_memberBits (hξ : ξ.length = 40) : (ξ ++ memY σ)[58]? = some (ya_memberBits σ) := gy_0 (k := 18) hξ
theorem gy_marks (hξ : ξ.length = 40) : (ξ ++ memY σ)[59]? = some (ya_marks σ) := gy_0 (k := 19) hξ
theorem gy_wanted (hξ : ξ.length = 40) : (ξ ++ memY σ)[60]? = some (ya_wanted σ) := gy_0 (k := 20) hξ
theorem sy_0 {k : Nat} {e : va_E} {σ1 : Nat → Nat → Nat} (hξ : ξ.length = 40) (h : (memY σ).set k e = memY σ1) : (ξ ++ memY σ).set (40 + k) e = ξ ++ memY σ1 := by
  rw [List.set_append_right _ _ (by omega), hξ, Nat.add_sub_cancel_left, h]
variable {l : Launch} {D : va_G} {ty : Nat → ClassId} {base b : Nat} {cc : ByteArray} {nL : Nat} {own : String} {ret : Option FieldType} {nm : String} {R : Room} {Ex : State → Prop} {Qf : List Frame → Array Value → State → State → Prop} {cells slots pc : Nat} {L : List (Option Value)} {st : List Value}
theorem gO_nodes {idx : Nat} (hd : decode cc pc = .ok (.getfield idx, 3)) (hf : pv_F own idx 3 0) (kk : pv_V l D ty base b cc nL own ret nm R Ex Qf cells slots (pc + 3) L (.ref (1 + 1) :: st) (memX σ ++ ρ)) : pv_V l D ty base b cc nL own ret nm R Ex Qf cells slots pc L (.ref (0 + 1) :: st) (memX σ ++ ρ) := pv_get hd gx_O hf rfl kk
theorem gO_rings {idx : Nat} (hd : decode cc pc = .ok (.getfield idx, 3)) (hf : pv_F own idx 3 1) (kk : pv_V l D ty base b cc nL own ret nm R Ex Qf cells slots (pc + 3) L (.ref (17 + 1) :: st) (memX σ ++ ρ)) : pv_V l D ty base b cc nL own ret nm R Ex Qf cells slots pc L (.ref (0 + 1) :: st) (memX σ ++ ρ) := pv_get hd gx_O hf rfl kk
theorem gO_messages {idx : Nat} (hd : decode cc pc = .ok (.getfield idx, 3)) (hf : pv_F own idx 3 2) (kk : pv_V l D ty base b cc nL own ret nm R Ex Qf cells slots (pc + 3) L (.ref (36 + 1) :: st) (memX σ ++ ρ)) : pv_V l D ty base b cc nL own ret nm R Ex Qf cells slots pc L (.ref (0 + 1) :: st) (memX σ ++ ρ) := pv_get hd gx_O hf rfl kk
theorem gO_greatestRing {idx : Nat} (hd : decode cc pc = .ok (.getfield idx, 3)) (hf : pv_F own idx 3 3) (kk : pv_V l D ty base b cc nL own ret nm R Ex Qf cells slots (pc + 3) L (.int (nI (σ 0 0)) :: st) (memX σ ++ ρ)) : pv_V l D ty base b cc nL own ret nm R Ex Qf cells slots pc L (.ref (0 + 1) :: st) (memX σ ++ ρ) := pv_get hd gx_O hf rfl kk
theorem sO_greatestRing {v : Nat} : (memX σ ++ ρ).set 0 (.inr (3, (xOf σ 0).set 3 (.int (nI v)))) = memX (sU σ 0 0 v) ++ ρ := rfl
theorem pO_greatestRing {v : Nat} {idx : Nat} (hd : decode cc pc = .ok (.putfield idx, 3)) (hf : pv_F own idx 3 3) (kk : pv_V l D ty base b cc nL own ret nm R Ex Qf cells slots (pc + 3) L st (memX (sU σ 0 0 v) ++ ρ)) : pv_V l D ty base b cc nL own ret nm R Ex Qf cells slots pc L (.int (nI v) :: .ref (0 + 1) :: st) (memX σ ++ ρ) := by
  refine pv_put hd gx_O hf fp_O_greatestRing (fun _ => rfl) (fun _ => rfl) (Nat.le_of_ble_eq_true rfl) ?_
  rw [sO_greatestRing]
  exact kk
theorem gN_number {i : Nat} {idx : Nat} (hd : decode cc pc = .ok (.getfield idx, 3)) (hf : pv_F own idx 1 0) (hi : i < 5) (kk : pv_V l D ty base b cc nL own ret nm R Ex Qf cells slots (pc + 3) L (.int (nI i) :: st) (memX σ ++ ρ)) : pv_V l D ty base b cc nL own ret nm R Ex Qf cells slots pc L (.ref (pN i + 1) :: st) (memX σ ++ ρ) := pv_get hd (gx_N hi) hf rfl kk
theorem gN_queue {i : Nat} {idx : Nat} (hd : decode cc pc = .ok (.getfield idx, 3)) (hf : pv_F own idx 1 1) (hi : i < 5) (kk : pv_V l D ty base b cc nL own ret nm R Ex Qf cells slots (pc + 3) L (.ref (3 + 3 * i + 1) :: st) (memX σ ++ ρ)) : pv_V l D ty base b cc nL own ret nm R Ex Qf cells slots pc L (.ref (pN i + 1) :: st) (memX σ ++ ρ) := pv_get hd (gx_N hi) hf rfl kk
theorem gN_entries {i : Nat} {idx : Nat} (hd : decode cc pc = .ok (.getfield idx, 3)) (hf : pv_F own idx 1 2) (hi : i < 5) (kk : pv_V l D ty base b cc nL own ret nm R Ex Qf cells slots (pc + 3) L (.ref (4 + 3 * i + 1) :: st) (memX σ ++ ρ)) : pv_V l D ty base b cc nL own ret nm R Ex Qf cells slots pc L (.ref (pN i + 1) :: st) (memX σ ++ ρ) := pv_get hd (gx_N hi) hf rfl kk
theorem gN_ring {i : Nat} {idx : Nat} (hd : decode cc pc = .ok (.getfield idx, 3)) (hf : pv_F own idx 1 3) (hi : i < 5) (kk : pv_V l D ty base b cc nL own ret nm R Ex Qf cells slots (pc + 3) L (pv_p (xp (σ 1 i)) :: st) (memX σ ++ ρ)) : pv_V l D ty base b cc nL own ret nm R Ex Qf cells slots pc L (.ref (pN i + 1) :: st) (memX σ ++ ρ) := pv_get hd (gx_N hi) hf rfl kk
theorem sN_ring0 {i : Nat} (hi : i < 5) : (memX σ ++ ρ).set (pN i) (.inr (1, (xNf σ i).set 3 (.null))) = memX (sU σ 1 i 0) ++ ρ := match i, hi with
  | 0, _ => rfl
  | 1, _ => rfl
  | 2, _ => rfl
  | 3, _ => rfl
  | 4, _ => rfl
  | k + 5, h => absurd h (by omega)
theorem pN_ring0 {i : Nat} {idx : Nat} (hd : decode cc pc = .ok (.putfield idx, 3)) (hf : pv_F own idx 1 3) (hi : i < 5) (kk : pv_V l D ty base b cc nL own ret nm R Ex Qf cells slots (pc + 3) L st (memX (sU σ 1 i 0) ++ ρ)) : pv_V l D ty base b cc nL own ret nm R Ex Qf cells slots pc L (.null :: .ref (pN i + 1) :: st) (memX σ ++ ρ) := by
  refine pv_put hd (gx_N hi) hf fp_N_ring (fun _ => rfl) (fun _ => rfl) (Nat.le_of_ble_eq_true rfl) ?_
  rw [sN_ring0 hi]
  exact kk
theorem sN_ringr {i : Nat} {v : Nat} (hi : i < 5) : (memX σ ++ ρ).set (pN i) (.inr (1, (xNf σ i).set 3 (.ref (pR v + 1)))) = memX (sU σ 1 i (v + 1)) ++ ρ := match i, hi with
  | 0, _ => rfl
  | 1, _ => rfl
  | 2, _ => rfl
  | 3, _ => rfl
  | 4, _ => rfl
  | k + 5, h => absurd h (by omega)
theorem pN_ringr {i : Nat} {v : Nat} {idx : Nat} (hd : decode cc pc = .ok (.putfield idx, 3)) (hf : pv_F own idx 1 3) (hi : i < 5) (kk : pv_V l D ty base b cc nL own ret nm R Ex Qf cells slots (pc + 3) L st (memX (sU σ 1 i (v + 1)) ++ ρ)) : pv_V l D ty base b cc nL own ret nm R Ex Qf cells slots pc L (.ref (pR v + 1) :: .ref (pN i + 1) :: st) (memX σ ++ ρ) := by
  refine pv_put hd (gx_N hi) hf fp_N_ring (fun _ => rfl) (fun _ => rfl) (Nat.le_of_ble_eq_true rfl) ?_
  rw [sN_ringr hi]
  exact kk
theorem gN_held {i : Nat} {idx : Nat} (hd : decode cc pc = .ok (.getfield idx, 3)) (hf : pv_F own idx 1 4) (hi : i < 5) (kk : pv_V l D ty base b cc nL own ret nm R Ex Qf cells slots (pc + 3) L (.long (lN (σ 2 i)) :: st) (memX σ ++ ρ)) : pv_V l D ty base b cc nL own ret nm R Ex Qf cells slots pc L (.ref (pN i + 1) :: st) (memX σ ++ ρ) := pv_get hd (gx_N hi) hf rfl kk
theorem sN_held {i : Nat} {v : Nat} (hi : i < 5) : (memX σ ++ ρ).set (pN i) (.inr (1, (xNf σ i).set 4 (.long (lN v)))) = memX (sU σ 2 i v) ++ ρ := match i, hi with
  | 0, _ => rfl
  | 1, _ => rfl
  | 2, _ => rfl
  | 3, _ => rfl
  | 4, _ => rfl
  | k + 5, h => absurd h (by omega)
theorem pN_held {i : Nat} {v : Nat} {idx : Nat} (hd : decode cc pc = .ok (.putfield idx, 3)) (hf : pv_F own idx 1 4) (hi : i < 5) (kk : pv_V l D ty base b cc nL own ret nm R Ex Qf cells slots (pc + 3) L st (memX (sU σ 2 i v) ++ ρ)) : pv_V l D ty base b cc nL own ret nm R Ex Qf cells slots pc L (.long (lN v) :: .ref (pN i + 1) :: st) (memX σ ++ ρ) := by
  refine pv_put hd (gx_N hi) hf fp_N_held (fun _ => rfl) (fun _ => rfl) (Nat.le_of_ble_eq_true rfl) ?_
  rw [sN_held hi]
  exact kk
theorem gN_queued {i : Nat} {idx : Nat} (hd : decode cc pc = .ok (.getfield idx, 3)) (hf : pv_F own idx 1 5) (hi : i < 5) (kk : pv_V l D ty base b cc nL own ret nm R Ex Qf cells slots (pc + 3) L (.int (nI (σ 3 i)) :: st) (memX σ ++ ρ)) : pv_V l D ty base b cc nL own ret nm R Ex Qf cells slots pc L (.ref (pN i + 1) :: st) (memX σ ++ ρ) := pv_get hd (gx_N hi) hf rfl kk
theorem sN_queued {i : Nat} {v : Nat} (hi : i < 5) : (memX σ ++ ρ).set (pN i) (.inr (1, (xNf σ i).set 5 (.int (nI v)))) = memX (sU σ 3 i v) ++ ρ := match i, hi with
  | 0, _ => rfl
  | 1, _ => rfl
  | 2, _ => rfl
  | 3, _ => rfl
  | 4, _ => rfl
  | k + 5, h => absurd h (by omega)
theorem pN_queued {i : Nat} {v : Nat} {idx : Nat} (hd : decode cc pc = .ok (.putfield idx, 3)) (hf : pv_F own idx 1 5) (hi : i < 5) (kk : pv_V l D ty base b cc nL own ret nm R Ex Qf cells slots (pc + 3) L st (memX (sU σ 3 i v) ++ ρ)) : pv_V l D ty base b cc nL own ret nm R Ex Qf cells slots pc L (.int (nI v) :: .ref (pN i + 1) :: st) (memX σ ++ ρ) := by
  refine pv_put hd (gx_N hi) hf fp_N_queued (fun _ => rfl) (fun _ => rfl) (Nat.le_of_ble_eq_true rfl) ?_
  rw [sN_queued hi]
  exact kk
theorem gN_logged {i : Nat} {idx : Nat} (hd : decode cc pc = .ok (.getfield idx, 3)) (hf : pv_F own idx 1 6) (hi : i < 5) (kk : pv_V l D ty base b cc nL own ret nm R Ex Qf cells slots (pc + 3) L (.int (nI (σ 4 i)) :: st) (memX σ ++ ρ)) : pv_V l D ty base b cc nL own ret nm R Ex Qf cells slots pc L (.ref (pN i + 1) :: st) (memX σ ++ ρ) := pv_get hd (gx_N hi) hf rfl kk
theorem sN_logged {i : Nat} {v : Nat} (hi : i < 5) : (memX σ ++ ρ).set (pN i) (.inr (1, (xNf σ i).set 6 (.int (nI v)))) = memX (sU σ 4 i v) ++ ρ := match i, hi with
  | 0, _ => rfl
  | 1, _ => rfl
  | 2, _ => rfl
  | 3, _ => rfl
  | 4, _ => rfl
  | k + 5, h => absurd h (by omega)
theorem pN_logged {i : Nat} {v : Nat} {idx : Nat} (hd : decode cc pc = .ok (.putfield idx, 3)) (hf : pv_F own idx 1 6) (hi : i < 5) (kk : pv_V l D ty base b cc nL own ret nm R Ex Qf cells slots (pc + 3) L st (memX (sU σ 4 i v) ++ ρ)) : pv_V l D ty base b cc nL own ret nm R Ex Qf cells slots pc L (.int (nI v) :: .ref (pN i + 1) :: st) (memX σ ++ ρ) := by
  refine pv_put hd (gx_N hi) hf fp_N_logged (fun _ => rfl) (fun _ => rfl) (Nat.le_of_ble_eq_true rfl) ?_
  rw [sN_logged hi]
  exact kk
theorem gN_area {i : Nat} {idx : Nat} (hd : decode cc pc = .ok (.getfield idx, 3)) (hf : pv_F own idx 1 7) (hi : i < 5) (kk : pv_V l D ty base b cc nL own ret nm R Ex Qf cells slots (pc + 3) L (.int (nI (σ 5 i)) :: st) (memX σ ++ ρ)) : pv_V l D ty base b cc nL own ret nm R Ex Qf cells slots pc L (.ref (pN i + 1) :: st) (memX σ ++ ρ) := pv_get hd (gx_N hi) hf rfl kk
theorem sN_area {i : Nat} {v : Nat} (hi : i < 5) : (memX σ ++ ρ).set (pN i) (.inr (1, (xNf σ i).set 7 (.int (nI v)))) = memX (sU σ 5 i v) ++ ρ := match i, hi with
  | 0, _ => rfl
  | 1, _ => rfl
  | 2, _ => rfl
  | 3, _ => rfl
  | 4, _ => rfl
  | k + 5, h => absurd h (by omega)
theorem pN_area {i : Nat} {v : Nat} {idx : Nat} (hd : decode cc pc = .ok (.putfield idx, 3)) (hf : pv_F own idx 1 7) (hi : i < 5) (kk : pv_V l D ty base b cc nL own ret nm R Ex Qf cells slots (pc + 3) L st (memX (sU σ 5 i v) ++ ρ)) : pv_V l D ty base b cc nL own ret nm R Ex Qf cells slots pc L (.int (nI v) :: .ref (pN i + 1) :: st) (memX σ ++ ρ) := by
  refine pv_put hd (gx_N hi) hf fp_N_area (fun _ => rfl) (fun _ => rfl) (Nat.le_of_ble_eq_true rfl) ?_
  rw [sN_area hi]
  exact kk
theorem gN_line {i : Nat} {idx : Nat} (hd : decode cc pc = .ok (.getfield idx, 3)) (hf : pv_F own idx 1 8) (hi : i < 5) (kk : pv_V l D ty base b cc nL own ret nm R Ex Qf cells slots (pc + 3) L (.int (nI (σ 6 i)) :: st) (memX σ ++ ρ)) : pv_V l D ty base b cc nL own ret nm R Ex Qf cells slots pc L (.ref (pN i + 1) :: st) (memX σ ++ ρ) := pv_get hd (gx_N hi) hf rfl kk
theorem sN_line {i : Nat} {v : Nat} (hi : i < 5) : (memX σ ++ ρ).set (pN i) (.inr (1, (xNf σ i).set 8 (.int (nI v)))) = memX (sU σ 6 i v) ++ ρ := match i, hi with
  | 0, _ => rfl
  | 1, _ => rfl
  | 2, _ => rfl
  | 3, _ => rfl
  | 4, _ => rfl
  | k + 5, h => absurd h (by omega)
theorem pN_line {i : Nat} {v : Nat} {idx : Nat} (hd : decode cc pc = .ok (.putfield idx, 3)) (hf : pv_F own idx 1 8) (hi : i < 5) (kk : pv_V l D ty base b cc nL own ret nm R Ex Qf cells slots (pc + 3) L st (memX (sU σ 6 i v) ++ ρ)) : pv_V l D ty base b cc nL own ret nm R Ex Qf cells slots pc L (.int (nI v) :: .ref (pN i + 1) :: st) (memX σ ++ ρ) := by
  refine pv_put hd (gx_N hi) hf fp_N_line (fun _ => rfl) (fun _ => rfl) (Nat.le_of_ble_eq_true rfl) ?_
  rw [sN_line hi]
  exact kk
theorem gN_place {i : Nat} {idx : Nat} (hd : decode cc pc = .ok (.getfield idx, 3)) (hf : pv_F own idx 1 9) (hi : i < 5) (kk : pv_V l D ty base b cc nL own ret nm R Ex Qf cells slots (pc + 3) L (.int (nI (σ 7 i)) :: st) (memX σ ++ ρ)) : pv_V l D ty base b cc nL own ret nm R Ex Qf cells slots pc L (.ref (pN i + 1) :: st) (memX σ ++ ρ) := pv_get hd (gx_N hi) hf rfl kk
theorem sN_place {i : Nat} {v : Nat} (hi : i < 5) : (memX σ ++ ρ).set (pN i) (.inr (1, (xNf σ i).set 9 (.int (nI v)))) = memX (sU σ 7 i v) ++ ρ := match i, hi with
  | 0, _ => rfl
  | 1, _ => rfl
  | 2, _ => rfl
  | 3, _ => rfl
  | 4, _ => rfl
  | k + 5, h => absurd h (by omega)
theorem pN_place {i : Nat} {v : Nat} {idx : Nat} (hd : decode cc pc = .ok (.putfield idx, 3)) (hf : pv_F own idx 1 9) (hi : i < 5) (kk : pv_V l D ty base b cc nL own ret nm R Ex Qf cells slots (pc + 3) L st (memX (sU σ 7 i v) ++ ρ)) : pv_V l D ty base b cc nL own ret nm R Ex Qf cells slots pc L (.int (nI v) :: .ref (pN i + 1) :: st) (memX σ ++ ρ) := by
  refine pv_put hd (gx_N hi) hf fp_N_place (fun _ => rfl) (fun _ => rfl) (Nat.le_of_ble_eq_true rfl) ?_
  rw [sN_place hi]
  exact kk
theorem gN_deafness {i : Nat} {idx : Nat} (hd : decode cc pc = .ok (.getfield idx, 3)) (hf : pv_F own idx 1 10) (hi : i < 5) (kk : pv_V l D ty base b cc nL own ret nm R Ex Qf cells slots (pc + 3) L (.int (nI (σ 8 i)) :: st) (memX σ ++ ρ)) : pv_V l D ty base b cc nL own ret nm R Ex Qf cells slots pc L (.ref (pN i + 1) :: st) (memX σ ++ ρ) := pv_get hd (gx_N hi) hf rfl kk
theorem sN_deafness {i : Nat} {v : Nat} (hi : i < 5) : (memX σ ++ ρ).set (pN i) (.inr (1, (xNf σ i).set 10 (.int (nI v)))) = memX (sU σ 8 i v) ++ ρ := match i, hi with
  | 0, _ => rfl
  | 1, _ => rfl
  | 2, _ => rfl
  | 3, _ => rfl
  | 4, _ => rfl
  | k + 5, h => absurd h (by omega)
theorem pN_deafness {i : Nat} {v : Nat} {idx : Nat} (hd : decode cc pc = .ok (.putfield idx, 3)) (hf : pv_F own idx 1 10) (hi : i < 5) (kk : pv_V l D ty base b cc nL own ret nm R Ex Qf cells slots (pc + 3) L st (memX (sU σ 8 i v) ++ ρ)) : pv_V l D ty base b cc nL own ret nm R Ex Qf cells slots pc L (.int (nI v) :: .ref (pN i + 1) :: st) (memX σ ++ ρ) := by
  refine pv_put hd (gx_N hi) hf fp_N_deafness (fun _ => rfl) (fun _ => rfl) (Nat.le_of_ble_eq_true rfl) ?_
  rw [sN_deafness hi]
  exact kk
theorem gN_timer {i : Nat} {idx : Nat} (hd : decode cc pc = .ok (.getfield idx, 3)) (hf : pv_F own idx 1 11) (hi : i < 5) (kk : pv_V l D ty base b cc nL own ret nm R Ex Qf cells slots (pc + 3) L (.int (nI (σ 9 i)) :: st) (memX σ ++ ρ)) : pv_V l D ty base b cc nL own ret nm R Ex Qf cells slots pc L (.ref (pN i + 1) :: st) (memX σ ++ ρ) := pv_get hd (gx_N hi) hf rfl kk
theorem sN_timer {i : Nat} {v : Nat} (hi : i < 5) : (memX σ ++ ρ).set (pN i) (.inr (1, (xNf σ i).set 11 (.int (nI v)))) = memX (sU σ 9 i v) ++ ρ := match i, hi with
  | 0, _ => rfl
  | 1, _ => rfl
  | 2, _ => rfl
  | 3, _ => rfl
  | 4, _ => rfl
  | k + 5, h => absurd h (by omega)
theorem pN_timer {i : Nat} {v : Nat} {idx : Nat} (hd : decode cc pc = .ok (.putfield idx, 3)) (hf : pv_F own idx 1 11) (hi : i < 5) (kk : pv_V l D ty base b cc nL own ret nm R Ex Qf cells slots (pc + 3) L st (memX (sU σ 9 i v) ++ ρ)) : pv_V l D ty base b cc nL own ret nm R Ex Qf cells slots pc L (.int (nI v) :: .ref (pN i + 1) :: st) (memX σ ++ ρ) := by
  refine pv_put hd (gx_N hi) hf fp_N_timer (fun _ => rfl) (fun _ => rfl) (Nat.le_of_ble_eq_true rfl) ?_
  rw [sN_timer hi]
  exact kk
theorem gR_messageAt {i : Nat} {idx : Nat} (hd : decode cc pc = .ok (.getfield idx, 3)) (hf : pv_F own idx 2 0) (hi : i < 6) (kk : pv_V l D ty base b cc nL own ret nm R Ex Qf cells slots (pc + 3) L (.ref (19 + 3 * i + 1) :: st) (memX σ ++ ρ)) : pv_V l D ty base b cc nL own ret nm R Ex Qf cells slots pc L (.ref (pR i + 1) :: st) (memX σ ++ ρ) := pv_get hd (gx_R hi) hf rfl kk
theorem gR_marks {i : Nat} {idx : Nat} (hd : decode cc pc = .ok (.getfield idx, 3)) (hf : pv_F own idx 2 1) (hi : i < 6) (kk : pv_V l D ty base b cc nL own ret nm R Ex Qf cells slots (pc + 3) L (.ref (20 + 3 * i + 1) :: st) (memX σ ++ ρ)) : pv_V l D ty base b cc nL own ret nm R Ex Qf cells slots pc L (.ref (pR i + 1) :: st) (memX σ ++ ρ) := pv_get hd (gx_R hi) hf rfl kk
theorem gR_number {i : Nat} {idx : Nat} (hd : decode cc pc = .ok (.getfield idx, 3)) (hf : pv_F own idx 2 2) (hi : i < 6) (kk : pv_V l D ty base b cc nL own ret nm R Ex Qf cells slots (pc + 3) L (.int (nI (σ 10 i)) :: st) (memX σ ++ ρ)) : pv_V l D ty base b cc nL own ret nm R Ex Qf cells slots pc L (.ref (pR i + 1) :: st) (memX σ ++ ρ) := pv_get hd (gx_R hi) hf rfl kk
theorem sR_number {i : Nat} {v : Nat} (hi : i < 6) : (memX σ ++ ρ).set (pR i) (.inr (2, (xRf σ i).set 2 (.int (nI v)))) = memX (sU σ 10 i v) ++ ρ := match i, hi with
  | 0, _ => rfl
  | 1, _ => rfl
  | 2, _ => rfl
  | 3, _ => rfl
  | 4, _ => rfl
  | 5, _ => rfl
  | k + 6, h => absurd h (by omega)
theorem pR_number {i : Nat} {v : Nat} {idx : Nat} (hd : decode cc pc = .ok (.putfield idx, 3)) (hf : pv_F own idx 2 2) (hi : i < 6) (kk : pv_V l D ty base b cc nL own ret nm R Ex Qf cells slots (pc + 3) L st (memX (sU σ 10 i v) ++ ρ)) : pv_V l D ty base b cc nL own ret nm R Ex Qf cells slots pc L (.int (nI v) :: .ref (pR i + 1) :: st) (memX σ ++ ρ) := by
  refine pv_put hd (gx_R hi) hf fp_R_number (fun _ => rfl) (fun _ => rfl) (Nat.le_of_ble_eq_true rfl) ?_
  rw [sR_number hi]
  exact kk
theorem gR_members {i : Nat} {idx : Nat} (hd : decode cc pc = .ok (.getfield idx, 3)) (hf : pv_F own idx 2 3) (hi : i < 6) (kk : pv_V l D ty base b cc nL own ret nm R Ex Qf cells slots (pc + 3) L (.int (nI (σ 11 i)) :: st) (memX σ ++ ρ)) : pv_V l D ty base b cc nL own ret nm R Ex Qf cells slots pc L (.ref (pR i + 1) :: st) (memX σ ++ ρ) := pv_get hd (gx_R hi) hf rfl kk
theorem sR_members {i : Nat} {v : Nat} (hi : i < 6) : (memX σ ++ ρ).set (pR i) (.inr (2, (xRf σ i).set 3 (.int (nI v)))) = memX (sU σ 11 i v) ++ ρ := match i, hi with
  | 0, _ => rfl
  | 1, _ => rfl
  | 2, _ => rfl
  | 3, _ => rfl
  | 4, _ => rfl
  | 5, _ => rfl
  | k + 6, h => absurd h (by omega)
theorem pR_members {i : Nat} {v : Nat} {idx : Nat} (hd : decode cc pc = .ok (.putfield idx, 3)) (hf : pv_F own idx 2 3) (hi : i < 6) (kk : pv_V l D ty base b cc nL own ret nm R Ex Qf cells slots (pc + 3) L st (memX (sU σ 11 i v) ++ ρ)) : pv_V l D ty base b cc nL own ret nm R Ex Qf cells slots pc L (.int (nI v) :: .ref (pR i + 1) :: st) (memX σ ++ ρ) := by
  refine pv_put hd (gx_R hi) hf fp_R_members (fun _ => rfl) (fun _ => rfl) (Nat.le_of_ble_eq_true rfl) ?_
  rw [sR_members hi]
  exact kk
theorem gR_tokenAt {i : Nat} {idx : Nat} (hd : decode cc pc = .ok (.getfield idx, 3)) (hf : pv_F own idx 2 4) (hi : i < 6) (kk : pv_V l D ty base b cc nL own ret nm R Ex Qf cells slots (pc + 3) L (.int (nI (σ 12 i) - 1) :: st) (memX σ ++ ρ)) : pv_V l D ty base b cc nL own ret nm R Ex Qf cells slots pc L (.ref (pR i + 1) :: st) (memX σ ++ ρ) := pv_get hd (gx_R hi) hf rfl kk
theorem sR_tokenAt {i : Nat} {v : Nat} (hi : i < 6) : (memX σ ++ ρ).set (pR i) (.inr (2, (xRf σ i).set 4 (.int (nI v - 1)))) = memX (sU σ 12 i v) ++ ρ := match i, hi with
  | 0, _ => rfl
  | 1, _ => rfl
  | 2, _ => rfl
  | 3, _ => rfl
  | 4, _ => rfl
  | 5, _ => rfl
  | k + 6, h => absurd h (by omega)
theorem pR_tokenAt {i : Nat} {v : Nat} {idx : Nat} (hd : decode cc pc = .ok (.putfield idx, 3)) (hf : pv_F own idx 2 4) (hi : i < 6) (kk : pv_V l D ty base b cc nL own ret nm R Ex Qf cells slots (pc + 3) L st (memX (sU σ 12 i v) ++ ρ)) : pv_V l D ty base b cc nL own ret nm R Ex Qf cells slots pc L (.int (nI v - 1) :: .ref (pR i + 1) :: st) (memX σ ++ ρ) := by
  refine pv_put hd (gx_R hi) hf fp_R_tokenAt (fun _ => rfl) (fun _ => rfl) (Nat.le_of_ble_eq_true rfl) ?_
  rw [sR_tokenAt hi]
  exact kk
theorem gR_last {i : Nat} {idx : Nat} (hd : decode cc pc = .ok (.getfield idx, 3)) (hf : pv_F own idx 2 5) (hi : i < 6) (kk : pv_V l D ty base b cc nL own ret nm R Ex Qf cells slots (pc + 3) L (.int (nI (σ 13 i)) :: st) (memX σ ++ ρ)) : pv_V l D ty base b cc nL own ret nm R Ex Qf cells slots pc L (.ref (pR i + 1) :: st) (memX σ ++ ρ) := pv_get hd (gx_R hi) hf rfl kk
theorem sR_last {i : Nat} {v : Nat} (hi : i < 6) : (memX σ ++ ρ).set (pR i) (.inr (2, (xRf σ i).set 5 (.int (nI v)))) = memX (sU σ 13 i v) ++ ρ := match i, hi with
  | 0, _ => rfl
  | 1, _ => rfl
  | 2, _ => rfl
  | 3, _ => rfl
  | 4, _ => rfl
  | 5, _ => rfl
  | k + 6, h => absurd h (by omega)
theorem pR_last {i : Nat} {v : Nat} {idx : Nat} (hd : decode cc pc = .ok (.putfield idx, 3)) (hf : pv_F own idx 2 5) (hi : i < 6) (kk : pv_V l D ty base b cc nL own ret nm R Ex Qf cells slots (pc + 3) L st (memX (sU σ 13 i v) ++ ρ)) : pv_V l D ty base b cc nL own ret nm R Ex Qf cells slots pc L (.int (nI v) :: .ref (pR i + 1) :: st) (memX σ ++ ρ) := by
  refine pv_put hd (gx_R hi) hf fp_R_last (fun _ => rfl) (fun _ => rfl) (Nat.le_of_ble_eq_true rfl) ?_
  rw [sR_last hi]
  exact kk
theorem gR_requests {i : Nat} {idx : Nat} (hd : decode cc pc = .ok (.getfield idx, 3)) (hf : pv_F own idx 2 6) (hi : i < 6) (kk : pv_V l D ty base b cc nL own ret nm R Ex Qf cells slots (pc + 3) L (.long (lN (σ 14 i)) :: st) (memX σ ++ ρ)) : pv_V l D ty base b cc nL own ret nm R Ex Qf cells slots pc L (.ref (pR i + 1) :: st) (memX σ ++ ρ) := pv_get hd (gx_R hi) hf rfl kk
theorem sR_requests {i : Nat} {v : Nat} (hi : i < 6) : (memX σ ++ ρ).set (pR i) (.inr (2, (xRf σ i).set 6 (.long (lN v)))) = memX (sU σ 14 i v) ++ ρ := match i, hi with
  | 0, _ => rfl
  | 1, _ => rfl
  | 2, _ => rfl
  | 3, _ => rfl
  | 4, _ => rfl
  | 5, _ => rfl
  | k + 6, h => absurd h (by omega)
theorem pR_requests {i : Nat} {v : Nat} {idx : Nat} (hd : decode cc pc = .ok (.putfield idx, 3)) (hf : pv_F own idx 2 6) (hi : i < 6) (kk : pv_V l D ty base b cc nL own ret nm R Ex Qf cells slots (pc + 3) L st (memX (sU σ 14 i v) ++ ρ)) : pv_V l D ty base b cc nL own ret nm R Ex Qf cells slots pc L (.long (lN v) :: .ref (pR i + 1) :: st) (memX σ ++ ρ) := by
  refine pv_put hd (gx_R hi) hf fp_R_requests (fun _ => rfl) (fun _ => rfl) (Nat.le_of_ble_eq_true rfl) ?_
  rw [sR_requests hi]
  exact kk
theorem gM_origins {idx : Nat} (hd : decode cc pc = .ok (.getfield idx, 3)) (hf : pv_F own idx 0 0) (kk : pv_V l D ty base b cc nL own ret nm R Ex Qf cells slots (pc + 3) L (.ref (37 + 1) :: st) (memX σ ++ ρ)) : pv_V l D ty base b cc nL own ret nm R Ex Qf cells slots pc L (.ref (36 + 1) :: st) (memX σ ++ ρ) := pv_get hd gx_M hf rfl kk
theorem gM_safe {idx : Nat} (hd : decode cc pc = .ok (.getfield idx, 3)) (hf : pv_F own idx 0 1) (kk : pv_V l D ty base b cc nL own ret nm R Ex Qf cells slots (pc + 3) L (.ref (38 + 1) :: st) (memX σ ++ ρ)) : pv_V l D ty base b cc nL own ret nm R Ex Qf cells slots pc L (.ref (36 + 1) :: st) (memX σ ++ ρ) := pv_get hd gx_M hf rfl kk
theorem gM_stamps {idx : Nat} (hd : decode cc pc = .ok (.getfield idx, 3)) (hf : pv_F own idx 0 2) (kk : pv_V l D ty base b cc nL own ret nm R Ex Qf cells slots (pc + 3) L (.ref (39 + 1) :: st) (memX σ ++ ρ)) : pv_V l D ty base b cc nL own ret nm R Ex Qf cells slots pc L (.ref (36 + 1) :: st) (memX σ ++ ρ) := pv_get hd gx_M hf rfl kk
theorem gM_taken {idx : Nat} (hd : decode cc pc = .ok (.getfield idx, 3)) (hf : pv_F own idx 0 3) (kk : pv_V l D ty base b cc nL own ret nm R Ex Qf cells slots (pc + 3) L (.int (nI (σ 15 0)) :: st) (memX σ ++ ρ)) : pv_V l D ty base b cc nL own ret nm R Ex Qf cells slots pc L (.ref (36 + 1) :: st) (memX σ ++ ρ) := pv_get hd gx_M hf rfl kk
theorem sM_taken {v : Nat} : (memX σ ++ ρ).set 36 (.inr (0, (xMf σ 0).set 3 (.int (nI v)))) = memX (sU σ 15 0 v) ++ ρ := rfl
theorem pM_taken {v : Nat} {idx : Nat} (hd : decode cc pc = .ok (.putfield idx, 3)) (hf : pv_F own idx 0 3) (kk : pv_V l D ty base b cc nL own ret nm R Ex Qf cells slots (pc + 3) L st (memX (sU σ 15 0 v) ++ ρ)) : pv_V l D ty base b cc nL own ret nm R Ex Qf cells slots pc L (.int (nI v) :: .ref (36 + 1) :: st) (memX σ ++ ρ) := by
  refine pv_put hd gx_M hf fp_M_taken (fun _ => rfl) (fun _ => rfl) (Nat.le_of_ble_eq_true rfl) ?_
  rw [sM_taken]
  exact kk
theorem gY_up {idx : Nat} (hd : decode cc pc = .ok (.getfield idx, 3)) (hf : pv_F own idx 4 0) (hξ : ξ.length = 40) (kk : pv_V l D ty base b cc nL own ret nm R Ex Qf cells slots (pc + 3) L (.ref (41 + 1) :: st) (ξ ++ memY σ)) : pv_V l D ty base b cc nL own ret nm R Ex Qf cells slots pc L (.ref (40 + 1) :: st) (ξ ++ memY σ) := pv_get hd (gy_Y hξ) hf rfl kk
theorem gY_area {idx : Nat} (hd : decode cc pc = .ok (.getfield idx, 3)) (hf : pv_F own idx 4 1) (hξ : ξ.length = 40) (kk : pv_V l D ty base b cc nL own ret nm R Ex Qf cells slots (pc + 3) L (.ref (42 + 1) :: st) (ξ ++ memY σ)) : pv_V l D ty base b cc nL own ret nm R Ex Qf cells slots pc L (.ref (40 + 1) :: st) (ξ ++ memY σ) := pv_get hd (gy_Y hξ) hf rfl kk
theorem gY_ringOf {idx : Nat} (hd : decode cc pc = .ok (.getfield idx, 3)) (hf : pv_F own idx 4 2) (hξ : ξ.length = 40) (kk : pv_V l D ty base b cc nL own ret nm R Ex Qf cells slots (pc + 3) L (.ref (43 + 1) :: st) (ξ ++ memY σ)) : pv_V l D ty base b cc nL own ret nm R Ex Qf cells slots pc L (.ref (40 + 1) :: st) (ξ ++ memY σ) := pv_get hd (gy_Y hξ) hf rfl kk
theorem gY_lineOf {idx : Nat} (hd : decode cc pc = .ok (.getfield idx, 3)) (hf : pv_F own idx 4 3) (hξ : ξ.length = 40) (kk : pv_V l D ty base b cc nL own ret nm R Ex Qf cells slots (pc + 3) L (.ref (44 + 1) :: st) (ξ ++ memY σ)) : pv_V l D ty base b cc nL own ret nm R Ex Qf cells slots pc L (.ref (40 + 1) :: st) (ξ ++ memY σ) := pv_get hd (gy_Y hξ) hf rfl kk
theorem gY_placeOf {idx : Nat} (hd : decode cc pc = .ok (.getfield idx, 3)) (hf : pv_F own idx 4 4) (hξ : ξ.length = 40) (kk : pv_V l D ty base b cc nL own ret nm R Ex Qf cells slots (pc + 3) L (.ref (45 + 1) :: st) (ξ ++ memY σ)) : pv_V l D ty base b cc nL own ret nm R Ex Qf cells slots pc L (.ref (40 + 1) :: st) (ξ ++ memY σ) := pv_get hd (gy_Y hξ) hf rfl kk
theorem gY_deaf {idx : Nat} (hd : decode cc pc = .ok (.getfield idx, 3)) (hf : pv_F own idx 4 5) (hξ : ξ.length = 40) (kk : pv_V l D ty base b cc nL own ret nm R Ex Qf cells slots (pc + 3) L (.ref (46 + 1) :: st) (ξ ++ memY σ)) : pv_V l D ty base b cc nL own ret nm R Ex Qf cells slots pc L (.ref (40 + 1) :: st) (ξ ++ memY σ) := pv_get hd (gy_Y hξ) hf rfl kk
theorem gY_timer {idx : Nat} (hd : decode cc pc = .ok (.getfield idx, 3)) (hf : pv_F own idx 4 6) (hξ : ξ.length = 40) (kk : pv_V l D ty base b cc nL own ret nm R Ex Qf cells slots (pc + 3) L (.ref (47 + 1) :: st) (ξ ++ memY σ)) : pv_V l D ty base b cc nL own ret nm R Ex Qf cells slots pc L (.ref (40 + 1) :: st) (ξ ++ memY σ) := pv_get hd (gy_Y hξ) hf rfl kk
theorem gY_hold {idx : Nat} (hd : decode cc pc = .ok (.getfield idx, 3)) (hf : pv_F own idx 4 7) (hξ : ξ.length = 40) (kk : pv_V l D ty base b cc nL own ret nm R Ex Qf cells slots (pc + 3) L (.ref (48 + 1) :: st) (ξ ++ memY σ)) : pv_V l D ty base b cc nL own ret nm R Ex Qf cells slots pc L (.ref (40 + 1) :: st) (ξ ++ memY σ) := pv_get hd (gy_Y hξ) hf rfl kk
theorem gY_logs {idx : Nat} (hd : decode cc pc = .ok (.getfield idx, 3)) (hf : pv_F own idx 4 8) (hξ : ξ.length = 40) (kk : pv_V l D ty base b cc nL own ret nm R Ex Qf cells slots (pc + 3) L (.ref (49 + 1) :: st) (ξ ++ memY σ)) : pv_V l D ty base b cc nL own ret nm R Ex Qf cells slots pc L (.ref (40 + 1) :: st) (ξ ++ memY σ) := pv_get hd (gy_Y hξ) hf rfl kk
theorem gY_entries {idx : Nat} (hd : decode cc pc = .ok (.getfield idx, 3)) (hf : pv_F own idx 4 9) (hξ : ξ.length = 40) (kk : pv_V l D ty base b cc nL own ret nm R Ex Qf cells slots (pc + 3) L (.ref (50 + 1) :: st) (ξ ++ memY σ)) : pv_V l D ty base b cc nL own ret nm R Ex Qf cells slots pc L (.ref (40 + 1) :: st) (ξ ++ memY σ) := pv_get hd (gy_Y hξ) hf rfl kk
theorem gY_messages {idx : Nat} (hd : decode cc pc = .ok (.getfield idx, 3)) (hf : pv_F own idx 4 10) (hξ : ξ.length = 40) (kk : pv_V l D ty base b cc nL own ret nm R Ex Qf cells slots (pc + 3) L (.int (nI (σ 10 0)) :: st) (ξ ++ memY σ)) : pv_V l D ty base b cc nL own ret nm R Ex Qf cells slots pc L (.ref (40 + 1) :: st) (ξ ++ memY σ) := pv_get hd (gy_Y hξ) hf rfl kk
theorem sY_messages {v : Nat} (hξ : ξ.length = 40) : (ξ ++ memY σ).set 40 (.inr (4, (xYf σ 0).set 10 (.int (nI v)))) = ξ ++ memY (sU σ 10 0 v) := sy_0 (k := 0) hξ rfl
theorem pY_messages {v : Nat} {idx : Nat} (hd : decode cc pc = .ok (.putfield idx, 3)) (hf : pv_F own idx 4 10) (hξ : ξ.length = 40) (kk : pv_V l D ty base b cc nL own ret nm R Ex Qf cells slots (pc + 3) L st (ξ ++ memY (sU σ 10 0 v))) : pv_V l D ty base b cc nL own ret nm R Ex Qf cells slots pc L (.int (nI v) :: .ref (40 + 1) :: st) (ξ ++ memY σ) := by
  refine pv_put hd (gy_Y hξ) hf fp_Y_messages (fun _ => rfl) (fun _ => rfl) (Nat.le_of_ble_eq_true rfl) ?_
  rw [sY_messages hξ]
  exact kk
theorem gY_origin {idx : Nat} (hd : decode cc pc = .ok (.getfield idx, 3)) (hf : pv_F own idx 4 11) (hξ : ξ.length = 40) (kk : pv_V l D ty base b cc nL own ret nm R Ex Qf cells slots (pc + 3) L (.ref (51 + 1) :: st) (ξ ++ memY σ)) : pv_V l D ty base b cc nL own ret nm R Ex Qf cells slots pc L (.ref (40 + 1) :: st) (ξ ++ memY σ) := pv_get hd (gy_Y hξ) hf rfl kk
theorem gY_isSafe {idx : Nat} (hd : decode cc pc = .ok (.getfield idx, 3)) (hf : pv_F own idx 4 12) (hξ : ξ.length = 40) (kk : pv_V l D ty base b cc nL own ret nm R Ex Qf cells slots (pc + 3) L (.ref (52 + 1) :: st) (ξ ++ memY σ)) : pv_V l D ty base b cc nL own ret nm R Ex Qf cells slots pc L (.ref (40 + 1) :: st) (ξ ++ memY σ) := pv_get hd (gy_Y hξ) hf rfl kk
theorem gY_gone {idx : Nat} (hd : decode cc pc = .ok (.getfield idx, 3)) (hf : pv_F own idx 4 13) (hξ : ξ.length = 40) (kk : pv_V l D ty base b cc nL own ret nm R Ex Qf cells slots (pc + 3) L (.ref (53 + 1) :: st) (ξ ++ memY σ)) : pv_V l D ty base b cc nL own ret nm R Ex Qf cells slots pc L (.ref (40 + 1) :: st) (ξ ++ memY σ) := pv_get hd (gy_Y hξ) hf rfl kk
theorem gY_ringIn {idx : Nat} (hd : decode cc pc = .ok (.getfield idx, 3)) (hf : pv_F own idx 4 14) (hξ : ξ.length = 40) (kk : pv_V l D ty base b cc nL own ret nm R Ex Qf cells slots (pc + 3) L (.ref (54 + 1) :: st) (ξ ++ memY σ)) : pv_V l D ty base b cc nL own ret nm R Ex Qf cells slots pc L (.ref (40 + 1) :: st) (ξ ++ memY σ) := pv_get hd (gy_Y hξ) hf rfl kk
theorem gY_number {idx : Nat} (hd : decode cc pc = .ok (.getfield idx, 3)) (hf : pv_F own idx 4 15) (hξ : ξ.length = 40) (kk : pv_V l D ty base b cc nL own ret nm R Ex Qf cells slots (pc + 3) L (.ref (55 + 1) :: st) (ξ ++ memY σ)) : pv_V l D ty base b cc nL own ret nm R Ex Qf cells slots pc L (.ref (40 + 1) :: st) (ξ ++ memY σ) := pv_get hd (gy_Y hξ) hf rfl kk
theorem gY_rings {idx : Nat} (hd : decode cc pc = .ok (.getfield idx, 3)) (hf : pv_F own idx 4 16) (hξ : ξ.length = 40) (kk : pv_V l D ty base b cc nL own ret nm R Ex Qf cells slots (pc + 3) L (.int (nI (σ 16 0)) :: st) (ξ ++ memY σ)) : pv_V l D ty base b cc nL own ret nm R Ex Qf cells slots pc L (.ref (40 + 1) :: st) (ξ ++ memY σ) := pv_get hd (gy_Y hξ) hf rfl kk
theorem sY_rings {v : Nat} (hξ : ξ.length = 40) : (ξ ++ memY σ).set 40 (.inr (4, (xYf σ 0).set 16 (.int (nI v)))) = ξ ++ memY (sU σ 16 0 v) := sy_0 (k := 0) hξ rfl
theorem pY_rings {v : Nat} {idx : Nat} (hd : decode cc pc = .ok (.putfield idx, 3)) (hf : pv_F own idx 4 16) (hξ : ξ.length = 40) (kk : pv_V l D ty base b cc nL own ret nm R Ex Qf cells slots (pc + 3) L st (ξ ++ memY (sU σ 16 0 v))) : pv_V l D ty base b cc nL own ret nm R Ex Qf cells slots pc L (.int (nI v) :: .ref (40 + 1) :: st) (ξ ++ memY σ) := by
  refine pv_put hd (gy_Y hξ) hf fp_Y_rings (fun _ => rfl) (fun _ => rfl) (Nat.le_of_ble_eq_true rfl) ?_
  rw [sY_rings hξ]
  exact kk
theorem gY_at {idx : Nat} (hd : decode cc pc = .ok (.getfield idx, 3)) (hf : pv_F own idx 4 17) (hξ : ξ.length = 40) (kk : pv_V l D ty base b cc nL own ret nm R Ex Qf cells slots (pc + 3) L (.ref (56 + 1) :: st) (ξ ++ memY σ)) : pv_V l D ty base b cc nL own ret nm R Ex Qf cells slots pc L (.ref (40 + 1) :: st) (ξ ++ memY σ) := pv_get hd (gy_Y hξ) hf rfl kk
theorem gY_latest {idx : Nat} (hd : decode cc pc = .ok (.getfield idx, 3)) (hf : pv_F own idx 4 18) (hξ : ξ.length = 40) (kk : pv_V l D ty base b cc nL own ret nm R Ex Qf cells slots (pc + 3) L (.ref (57 + 1) :: st) (ξ ++ memY σ)) : pv_V l D ty base b cc nL own ret nm R Ex Qf cells slots pc L (.ref (40 + 1) :: st) (ξ ++ memY σ) := pv_get hd (gy_Y hξ) hf rfl kk
theorem gY_memberBits {idx : Nat} (hd : decode cc pc = .ok (.getfield idx, 3)) (hf : pv_F own idx 4 19) (hξ : ξ.length = 40) (kk : pv_V l D ty base b cc nL own ret nm R Ex Qf cells slots (pc + 3) L (.ref (58 + 1) :: st) (ξ ++ memY σ)) : pv_V l D ty base b cc nL own ret nm R Ex Qf cells slots pc L (.ref (40 + 1) :: st) (ξ ++ memY σ) := pv_get hd (gy_Y hξ) hf rfl kk
theorem gY_marks {idx : Nat} (hd : decode cc pc = .ok (.getfield idx, 3)) (hf : pv_F own idx 4 20) (hξ : ξ.length = 40) (kk : pv_V l D ty base b cc nL own ret nm R Ex Qf cells slots (pc + 3) L (.ref (59 + 1) :: st) (ξ ++ memY σ)) : pv_V l D ty base b cc nL own ret nm R Ex Qf cells slots pc L (.ref (40 + 1) :: st) (ξ ++ memY σ) := pv_get hd (gy_Y hξ) hf rfl kk
theorem gY_wanted {idx : Nat} (hd : decode cc pc = .ok (.getfield idx, 3)) (hf : pv_F own idx 4 21) (hξ : ξ.length = 40) (kk : pv_V l D ty base b cc nL own ret nm R Ex Qf cells slots (pc + 3) L (.ref (60 + 1) :: st) (ξ ++ memY σ)) : pv_V l D ty base b cc nL own ret nm R Ex Qf cells slots pc L (.ref (40 + 1) :: st) (ξ ++ memY σ) := pv_get hd (gy_Y hξ) hf rfl kk
theorem nI_upd {f g j v : Nat} : (fun i => nI (sU σ f j v f i)) = upd (fun i => nI (σ f i)) j (nI v) := by
  funext i
  by_cases h : i = j <;> simp [sU, upd, h]
theorem l_queue {i : Nat} {j : Nat} (hd : decode cc pc = .ok (.iaload, 1)) (hi : i < 5) (hj : j < 8) (kk : pv_V l D ty base b cc nL own ret nm R Ex Qf cells slots (pc + 1) L (.int (nI (σ (20 + i) j)) :: st) (memX σ ++ ρ)) : pv_V l D ty base b cc nL own ret nm R Ex Qf cells slots pc L (.int (nI j) :: .ref (3 + 3 * i + 1) :: st) (memX σ ++ ρ) := pv_iald hd (gx_queue hi) hj (by decide) kk
theorem sa_queue {i : Nat} {j v : Nat} (hi : i < 5) : (memX σ ++ ρ).set (3 + 3 * i) (.inl (0, 8, .inl (upd (fun j => nI (σ (20 + i) j)) j (nI v)))) = memX (sU σ (20 + i) j v) ++ ρ := match i, hi with
  | 0, _ => by rw [← nI_upd (g := 0)]; rfl
  | 1, _ => by rw [← nI_upd (g := 0)]; rfl
  | 2, _ => by rw [← nI_upd (g := 0)]; rfl
  | 3, _ => by rw [← nI_upd (g := 0)]; rfl
  | 4, _ => by rw [← nI_upd (g := 0)]; rfl
  | k + 5, h => absurd h (by omega)
theorem s_queue {i : Nat} {j v : Nat} (hd : decode cc pc = .ok (.iastore, 1)) (hi : i < 5) (hj : j < 8) (kk : pv_V l D ty base b cc nL own ret nm R Ex Qf cells slots (pc + 1) L st (memX (sU σ (20 + i) j v) ++ ρ)) : pv_V l D ty base b cc nL own ret nm R Ex Qf cells slots pc L (.int (nI v) :: .int (nI j) :: .ref (3 + 3 * i + 1) :: st) (memX σ ++ ρ) := by
  refine pv_iast hd (gx_queue hi) hj (by decide) ?_
  rw [sa_queue hi]
  exact kk
theorem l_entries {i : Nat} {j : Nat} (hd : decode cc pc = .ok (.iaload, 1)) (hi : i < 5) (hj : j < 48) (kk : pv_V l D ty base b cc nL own ret nm R Ex Qf cells slots (pc + 1) L (.int (nI (σ (30 + i) j)) :: st) (memX σ ++ ρ)) : pv_V l D ty base b cc nL own ret nm R Ex Qf cells slots pc L (.int (nI j) :: .ref (4 + 3 * i + 1) :: st) (memX σ ++ ρ) := pv_iald hd (gx_entries hi) hj (by decide) kk
theorem sa_entries {i : Nat} {j v : Nat} (hi : i < 5) : (memX σ ++ ρ).set (4 + 3 * i) (.inl (0, 48, .inl (upd (fun j => nI (σ (30 + i) j)) j (nI v)))) = memX (sU σ (30 + i) j v) ++ ρ := match i, hi with
  | 0, _ => by rw [← nI_upd (g := 0)]; rfl
  | 1, _ => by rw [← nI_upd (g := 0)]; rfl
  | 2, _ => by rw [← nI_upd (g := 0)]; rfl
  | 3, _ => by rw [← nI_upd (g := 0)]; rfl
  | 4, _ => by rw [← nI_upd (g := 0)]; rfl
  | k + 5, h => absurd h (by omega)
theorem s_entries {i : Nat} {j v : Nat} (hd : decode cc pc = .ok (.iastore, 1)) (hi : i < 5) (hj : j < 48) (kk : pv_V l D ty base b cc nL own ret nm R Ex Qf cells slots (pc + 1) L st (memX (sU σ (30 + i) j v) ++ ρ)) : pv_V l D ty base b cc nL own ret nm R Ex Qf cells slots pc L (.int (nI v) :: .int (nI j) :: .ref (4 + 3 * i + 1) :: st) (memX σ ++ ρ) := by
  refine pv_iast hd (gx_entries hi) hj (by decide) ?_
  rw [sa_entries hi]
  exact kk
theorem l_messageAt {i : Nat} {j : Nat} (hd : decode cc pc = .ok (.iaload, 1)) (hi : i < 6) (hj : j < 49) (kk : pv_V l D ty base b cc nL own ret nm R Ex Qf cells slots (pc + 1) L (.int (nI (σ (40 + i) j)) :: st) (memX σ ++ ρ)) : pv_V l D ty base b cc nL own ret nm R Ex Qf cells slots pc L (.int (nI j) :: .ref (19 + 3 * i + 1) :: st) (memX σ ++ ρ) := pv_iald hd (gx_messageAt hi) hj (by decide) kk
theorem sa_messageAt {i : Nat} {j v : Nat} (hi : i < 6) : (memX σ ++ ρ).set (19 + 3 * i) (.inl (0, 49, .inl (upd (fun j => nI (σ (40 + i) j)) j (nI v)))) = memX (sU σ (40 + i) j v) ++ ρ := match i, hi with
  | 0, _ => by rw [← nI_upd (g := 0)]; rfl
  | 1, _ => by rw [← nI_upd (g := 0)]; rfl
  | 2, _ => by rw [← nI_upd (g := 0)]; rfl
  | 3, _ => by rw [← nI_upd (g := 0)]; rfl
  | 4, _ => by rw [← nI_upd (g := 0)]; rfl
  | 5, _ => by rw [← nI_upd (g := 0)]; rfl
  | k + 6, h => absurd h (by omega)
theorem s_messageAt {i : Nat} {j v : Nat} (hd : decode cc pc = .ok (.iastore, 1)) (hi : i < 6) (hj : j < 49) (kk : pv_V l D ty base b cc nL own ret nm R Ex Qf cells slots (pc + 1) L st (memX (sU σ (40 + i) j v) ++ ρ)) : pv_V l D ty base b cc nL own ret nm R Ex Qf cells slots pc L (.int (nI v) :: .int (nI j) :: .ref (19 + 3 * i + 1) :: st) (memX σ ++ ρ) := by
  refine pv_iast hd (gx_messageAt hi) hj (by decide) ?_
  rw [sa_messageAt hi]
  exact kk
theorem l_marks {i : Nat} {j : Nat} (hd : decode cc pc = .ok (.iaload, 1)) (hi : i < 6) (hj : j < 5) (kk : pv_V l D ty base b cc nL own ret nm R Ex Qf cells slots (pc + 1) L (.int (nI (σ (50 + i) j)) :: st) (memX σ ++ ρ)) : pv_V l D ty base b cc nL own ret nm R Ex Qf cells slots pc L (.int (nI j) :: .ref (20 + 3 * i + 1) :: st) (memX σ ++ ρ) := pv_iald hd (gx_marks hi) hj (by decide) kk
theorem sa_marks {i : Nat} {j v : Nat} (hi : i < 6) : (memX σ ++ ρ).set (20 + 3 * i) (.inl (0, 5, .inl (upd (fun j => nI (σ (50 + i) j)) j (nI v)))) = memX (sU σ (50 + i) j v) ++ ρ := match i, hi with
  | 0, _ => by rw [← nI_upd (g := 0)]; rfl
  | 1, _ => by rw [← nI_upd (g := 0)]; rfl
  | 2, _ => by rw [← nI_upd (g := 0)]; rfl
  | 3, _ => by rw [← nI_upd (g := 0)]; rfl
  | 4, _ => by rw [← nI_upd (g := 0)]; rfl
  | 5, _ => by rw [← nI_upd (g := 0)]; rfl
  | k + 6, h => absurd h (by omega)
theorem s_marks {i : Nat} {j v : Nat} (hd : decode cc pc = .ok (.iastore, 1)) (hi : i < 6) (hj : j < 5) (kk : pv_V l D ty base b cc nL own ret nm R Ex Qf cells slots (pc + 1) L st (memX (sU σ (50 + i) j v) ++ ρ)) : pv_V l D ty base b cc nL own ret nm R Ex Qf cells slots pc L (.int (nI v) :: .int (nI j) :: .ref (20 + 3 * i + 1) :: st) (memX σ ++ ρ) := by
  refine pv_iast hd (gx_marks hi) hj (by decide) ?_
  rw [sa_marks hi]
  exact kk
theorem l_origins {j : Nat} (hd : decode cc pc = .ok (.iaload, 1)) (hj : j < 49) (kk : pv_V l D ty base b cc nL own ret nm R Ex Qf cells slots (pc + 1) L (.int (nI (σ (60) j)) :: st) (memX σ ++ ρ)) : pv_V l D ty base b cc nL own ret nm R Ex Qf cells slots pc L (.int (nI j) :: .ref (37 + 1) :: st) (memX σ ++ ρ) := pv_iald hd gx_origins hj (by decide) kk
theorem sa_origins {j v : Nat} : (memX σ ++ ρ).set (37) (.inl (0, 49, .inl (upd (fun j => nI (σ (60) j)) j (nI v)))) = memX (sU σ (60) j v) ++ ρ := by rw [← nI_upd (g := 0)]; rfl
theorem s_origins {j v : Nat} (hd : decode cc pc = .ok (.iastore, 1)) (hj : j < 49) (kk : pv_V l D ty base b cc nL own ret nm R Ex Qf cells slots (pc + 1) L st (memX (sU σ (60) j v) ++ ρ)) : pv_V l D ty base b cc nL own ret nm R Ex Qf cells slots pc L (.int (nI v) :: .int (nI j) :: .ref (37 + 1) :: st) (memX σ ++ ρ) := by
  refine pv_iast hd gx_origins hj (by decide) ?_
  rw [sa_origins]
  exact kk
theorem l_safe {j : Nat} (hd : decode cc pc = .ok (.baload, 1)) (hj : j < 49) (kk : pv_V l D ty base b cc nL own ret nm R Ex Qf cells slots (pc + 1) L (.int (nI (σ (61) j)) :: st) (memX σ ++ ρ)) : pv_V l D ty base b cc nL own ret nm R Ex Qf cells slots pc L (.int (nI j) :: .ref (38 + 1) :: st) (memX σ ++ ρ) := pv_zald hd gx_safe hj (by decide) kk
theorem sa_safe {j v : Nat} : (memX σ ++ ρ).set (38) (.inl (1, 49, .inl (upd (fun j => nI (σ (61) j)) j (nI v)))) = memX (sU σ (61) j v) ++ ρ := by rw [← nI_upd (g := 0)]; rfl
theorem s_safe {j v : Nat} (hd : decode cc pc = .ok (.bastore, 1)) (hj : j < 49) (hx : vp_nar .boolean (nI v) = nI v) (kk : pv_V l D ty base b cc nL own ret nm R Ex Qf cells slots (pc + 1) L st (memX (sU σ (61) j v) ++ ρ)) : pv_V l D ty base b cc nL own ret nm R Ex Qf cells slots pc L (.int (nI v) :: .int (nI j) :: .ref (38 + 1) :: st) (memX σ ++ ρ) := by
  refine pv_zast hx hd gx_safe hj (by decide) ?_
  rw [sa_safe]
  exact kk
theorem l_stamps {j : Nat} (hd : decode cc pc = .ok (.iaload, 1)) (hj : j < 49) (kk : pv_V l D ty base b cc nL own ret nm R Ex Qf cells slots (pc + 1) L (.int (nI (σ (62) j)) :: st) (memX σ ++ ρ)) : pv_V l D ty base b cc nL own ret nm R Ex Qf cells slots pc L (.int (nI j) :: .ref (39 + 1) :: st) (memX σ ++ ρ) := pv_iald hd gx_stamps hj (by decide) kk
theorem sa_stamps {j v : Nat} : (memX σ ++ ρ).set (39) (.inl (0, 49, .inl (upd (fun j => nI (σ (62) j)) j (nI v)))) = memX (sU σ (62) j v) ++ ρ := by rw [← nI_upd (g := 0)]; rfl
theorem s_stamps {j v : Nat} (hd : decode cc pc = .ok (.iastore, 1)) (hj : j < 49) (kk : pv_V l D ty base b cc nL own ret nm R Ex Qf cells slots (pc + 1) L st (memX (sU σ (62) j v) ++ ρ)) : pv_V l D ty base b cc nL own ret nm R Ex Qf cells slots pc L (.int (nI v) :: .int (nI j) :: .ref (39 + 1) :: st) (memX σ ++ ρ) := by
  refine pv_iast hd gx_stamps hj (by decide) ?_
  rw [sa_stamps]
  exact kk
theorem l_nodes {j : Nat} (hd : decode cc pc = .ok (.aaload, 1)) (hj : j < 5) (kk : pv_V l D ty base b cc nL own ret nm R Ex Qf cells slots (pc + 1) L (.ref (pN j + 1) :: st) (memX σ ++ ρ)) : pv_V l D ty base b cc nL own ret nm R Ex Qf cells slots pc L (.int (nI j) :: .ref (1 + 1) :: st) (memX σ ++ ρ) := pv_aald3 hd gx_Ns hj (by decide) (if_pos hj) kk
theorem l_rings {j : Nat} (hd : decode cc pc = .ok (.aaload, 1)) (hj : j < 6) (kk : pv_V l D ty base b cc nL own ret nm R Ex Qf cells slots (pc + 1) L (.ref (pR j + 1) :: st) (memX σ ++ ρ)) : pv_V l D ty base b cc nL own ret nm R Ex Qf cells slots pc L (.int (nI j) :: .ref (17 + 1) :: st) (memX σ ++ ρ) := pv_aald4 hd gx_Rs hj (by decide) (if_pos hj) kk
theorem n_nodes (hd : decode cc pc = .ok (.arraylength, 1)) (kk : pv_V l D ty base b cc nL own ret nm R Ex Qf cells slots (pc + 1) L (.int (nI 5) :: st) (memX σ ++ ρ)) : pv_V l D ty base b cc nL own ret nm R Ex Qf cells slots pc L (.ref (1 + 1) :: st) (memX σ ++ ρ) := pv_alen hd gx_Ns (fun _ => rfl) kk
theorem n_rings (hd : decode cc pc = .ok (.arraylength, 1)) (kk : pv_V l D ty base b cc nL own ret nm R Ex Qf cells slots (pc + 1) L (.int (nI 6) :: st) (memX σ ++ ρ)) : pv_V l D ty base b cc nL own ret nm R Ex Qf cells slots pc L (.ref (17 + 1) :: st) (memX σ ++ ρ) := pv_alen hd gx_Rs (fun _ => rfl) kk
theorem lN_upd {f g j v : Nat} : (fun i => lN (sU σ f j v f i)) = vp_updL (fun i => lN (σ f i)) j (lN v) := by
  funext i
  by_cases h : i = j <;> simp [sU, vp_updL, h]
theorem mI_upd {f g j v : Nat} : (fun i => nI (sU σ f j v f i) - 1) = upd (fun i => nI (σ f i) - 1) j (nI v - 1) := by
  funext i
  by_cases h : i = j <;> simp [sU, upd, h]
theorem ly_up {j : Nat} (hd : decode cc pc = .ok (.baload, 1)) (hξ : ξ.length = 40) (hj : j < 5) (kk : pv_V l D ty base b cc nL own ret nm R Ex Qf cells slots (pc + 1) L (.int (nI (σ 0 j)) :: st) (ξ ++ memY σ)) : pv_V l D ty base b cc nL own ret nm R Ex Qf cells slots pc L (.int (nI j) :: .ref (41 + 1) :: st) (ξ ++ memY σ) := pv_zald hd (gy_up hξ) hj (by decide) kk
theorem say_up {j v : Nat} (hξ : ξ.length = 40) : (ξ ++ memY σ).set 41 (.inl (1, 5, .inl (upd (fun j => nI (σ 0 j)) j (nI v)))) = ξ ++ memY (sU σ 0 j v) := sy_0 (k := 1) hξ (by rw [← nI_upd (g := 0)]; rfl)
theorem sy_up {j v : Nat} (hd : decode cc pc = .ok (.bastore, 1)) (hξ : ξ.length = 40) (hj : j < 5) (hx : vp_nar .boolean (nI v) = nI v) (kk : pv_V l D ty base b cc nL own ret nm R Ex Qf cells slots (pc + 1) L st (ξ ++ memY (sU σ 0 j v))) : pv_V l D ty base b cc nL own ret nm R Ex Qf cells slots pc L (.int (nI v) :: .int (nI j) :: .ref (41 + 1) :: st) (ξ ++ memY σ) := by
  refine pv_zast hx hd (gy_up hξ) hj (by decide) ?_
  rw [say_up hξ]
  exact kk
theorem ly_area {j : Nat} (hd : decode cc pc = .ok (.iaload, 1)) (hξ : ξ.length = 40) (hj : j < 5) (kk : pv_V l D ty base b cc nL own ret nm R Ex Qf cells slots (pc + 1) L (.int (nI (σ 1 j)) :: st) (ξ ++ memY σ)) : pv_V l D ty base b cc nL own ret nm R Ex Qf cells slots pc L (.int (nI j) :: .ref (42 + 1) :: st) (ξ ++ memY σ) := pv_iald hd (gy_area hξ) hj (by decide) kk
theorem say_area {j v : Nat} (hξ : ξ.length = 40) : (ξ ++ memY σ).set 42 (.inl (0, 5, .inl (upd (fun j => nI (σ 1 j)) j (nI v)))) = ξ ++ memY (sU σ 1 j v) := sy_0 (k := 2) hξ (by rw [← nI_upd (g := 0)]; rfl)
theorem sy_area {j v : Nat} (hd : decode cc pc = .ok (.iastore, 1)) (hξ : ξ.length = 40) (hj : j < 5) (kk : pv_V l D ty base b cc nL own ret nm R Ex Qf cells slots (pc + 1) L st (ξ ++ memY (sU σ 1 j v))) : pv_V l D ty base b cc nL own ret nm R Ex Qf cells slots pc L (.int (nI v) :: .int (nI j) :: .ref (42 + 1) :: st) (ξ ++ memY σ) := by
  refine pv_iast hd (gy_area hξ) hj (by decide) ?_
  rw [say_area hξ]
  exact kk
theorem ly_ringOf {j : Nat} (hd : decode cc pc = .ok (.iaload, 1)) (hξ : ξ.length = 40) (hj : j < 5) (kk : pv_V l D ty base b cc nL own ret nm R Ex Qf cells slots (pc + 1) L (.int (nI (σ 2 j)) :: st) (ξ ++ memY σ)) : pv_V l D ty base b cc nL own ret nm R Ex Qf cells slots pc L (.int (nI j) :: .ref (43 + 1) :: st) (ξ ++ memY σ) := pv_iald hd (gy_ringOf hξ) hj (by decide) kk
theorem say_ringOf {j v : Nat} (hξ : ξ.length = 40) : (ξ ++ memY σ).set 43 (.inl (0, 5, .inl (upd (fun j => nI (σ 2 j)) j (nI v)))) = ξ ++ memY (sU σ 2 j v) := sy_0 (k := 3) hξ (by rw [← nI_upd (g := 0)]; rfl)
theorem sy_ringOf {j v : Nat} (hd : decode cc pc = .ok (.iastore, 1)) (hξ : ξ.length = 40) (hj : j < 5) (kk : pv_V l D ty base b cc nL own ret nm R Ex Qf cells slots (pc + 1) L st (ξ ++ memY (sU σ 2 j v))) : pv_V l D ty base b cc nL own ret nm R Ex Qf cells slots pc L (.int (nI v) :: .int (nI j) :: .ref (43 + 1) :: st) (ξ ++ memY σ) := by
  refine pv_iast hd (gy_ringOf hξ) hj (by decide) ?_
  rw [say_ringOf hξ]
  exact kk
theorem ly_lineOf {j : Nat} (hd : decode cc pc = .ok (.iaload, 1)) (hξ : ξ.length = 40) (hj : j < 5) (kk : pv_V l D ty base b cc nL own ret nm R Ex Qf cells slots (pc + 1) L (.int (nI (σ 3 j)) :: st) (ξ ++ memY σ)) : pv_V l D ty base b cc nL own ret nm R Ex Qf cells slots pc L (.int (nI j) :: .ref (44 + 1) :: st) (ξ ++ memY σ) := pv_iald hd (gy_lineOf hξ) hj (by decide) kk
theorem say_lineOf {j v : Nat} (hξ : ξ.length = 40) : (ξ ++ memY σ).set 44 (.inl (0, 5, .inl (upd (fun j => nI (σ 3 j)) j (nI v)))) = ξ ++ memY (sU σ 3 j v) := sy_0 (k := 4) hξ (by rw [← nI_upd (g := 0)]; rfl)
theorem sy_lineOf {j v : Nat} (hd : decode cc pc = .ok (.iastore, 1)) (hξ : ξ.length = 40) (hj : j < 5) (kk : pv_V l D ty base b cc nL own ret nm R Ex Qf cells slots (pc + 1) L st (ξ ++ memY (sU σ 3 j v))) : pv_V l D ty base b cc nL own ret nm R Ex Qf cells slots pc L (.int (nI v) :: .int (nI j) :: .ref (44 + 1) :: st) (ξ ++ memY σ) := by
  refine pv_iast hd (gy_lineOf hξ) hj (by decide) ?_
  rw [say_lineOf hξ]
  exact kk
theorem ly_placeOf {j : Nat} (hd : decode cc pc = .ok (.iaload, 1)) (hξ : ξ.length = 40) (hj : j < 5) (kk : pv_V l D ty base b cc nL own ret nm R Ex Qf cells slots (pc + 1) L (.int (nI (σ 4 j)) :: st) (ξ ++ memY σ)) : pv_V l D ty base b cc nL own ret nm R Ex Qf cells slots pc L (.int (nI j) :: .ref (45 + 1) :: st) (ξ ++ memY σ) := pv_iald hd (gy_placeOf hξ) hj (by decide) kk
theorem say_placeOf {j v : Nat} (hξ : ξ.length = 40) : (ξ ++ memY σ).set 45 (.inl (0, 5, .inl (upd (fun j => nI (σ 4 j)) j (nI v)))) = ξ ++ memY (sU σ 4 j v) := sy_0 (k := 5) hξ (by rw [← nI_upd (g := 0)]; rfl)
theorem sy_placeOf {j v : Nat} (hd : decode cc pc = .ok (.iastore, 1)) (hξ : ξ.length = 40) (hj : j < 5) (kk : pv_V l D ty base b cc nL own ret nm R Ex Qf cells slots (pc + 1) L st (ξ ++ memY (sU σ 4 j v))) : pv_V l D ty base b cc nL own ret nm R Ex Qf cells slots pc L (.int (nI v) :: .int (nI j) :: .ref (45 + 1) :: st) (ξ ++ memY σ) := by
  refine pv_iast hd (gy_placeOf hξ) hj (by decide) ?_
  rw [say_placeOf hξ]
  exact kk
theorem ly_deaf {j : Nat} (hd : decode cc pc = .ok (.iaload, 1)) (hξ : ξ.length = 40) (hj : j < 5) (kk : pv_V l D ty base b cc nL own ret nm R Ex Qf cells slots (pc + 1) L (.int (nI (σ 5 j)) :: st) (ξ ++ memY σ)) : pv_V l D ty base b cc nL own ret nm R Ex Qf cells slots pc L (.int (nI j) :: .ref (46 + 1) :: st) (ξ ++ memY σ) := pv_iald hd (gy_deaf hξ) hj (by decide) kk
theorem say_deaf {j v : Nat} (hξ : ξ.length = 40) : (ξ ++ memY σ).set 46 (.inl (0, 5, .inl (upd (fun j => nI (σ 5 j)) j (nI v)))) = ξ ++ memY (sU σ 5 j v) := sy_0 (k := 6) hξ (by rw [← nI_upd (g := 0)]; rfl)
theorem sy_deaf {j v : Nat} (hd : decode cc pc = .ok (.iastore, 1)) (hξ : ξ.length = 40) (hj : j < 5) (kk : pv_V l D ty base b cc nL own ret nm R Ex Qf cells slots (pc + 1) L st (ξ ++ memY (sU σ 5 j v))) : pv_V l D ty base b cc nL own ret nm R Ex Qf cells slots pc L (.int (nI v) :: .int (nI j) :: .ref (46 + 1) :: st) (ξ ++ memY σ) := by
  refine pv_iast hd (gy_deaf hξ) hj (by decide) ?_
  rw [say_deaf hξ]
  exact kk
theorem ly_timer {j : Nat} (hd : decode cc pc = .ok (.iaload, 1)) (hξ : ξ.length = 40) (hj : j < 5) (kk : pv_V l D ty base b cc nL own ret nm R Ex Qf cells slots (pc + 1) L (.int (nI (σ 6 j)) :: st) (ξ ++ memY σ)) : pv_V l D ty base b cc nL own ret nm R Ex Qf cells slots pc L (.int (nI j) :: .ref (47 + 1) :: st) (ξ ++ memY σ) := pv_iald hd (gy_timer hξ) hj (by decide) kk
theorem say_timer {j v : Nat} (hξ : ξ.length = 40) : (ξ ++ memY σ).set 47 (.inl (0, 5, .inl (upd (fun j => nI (σ 6 j)) j (nI v)))) = ξ ++ memY (sU σ 6 j v) := sy_0 (k := 7) hξ (by rw [← nI_upd (g := 0)]; rfl)
theorem sy_timer {j v : Nat} (hd : decode cc pc = .ok (.iastore, 1)) (hξ : ξ.length = 40) (hj : j < 5) (kk : pv_V l D ty base b cc nL own ret nm R Ex Qf cells slots (pc + 1) L st (ξ ++ memY (sU σ 6 j v))) : pv_V l D ty base b cc nL own ret nm R Ex Qf cells slots pc L (.int (nI v) :: .int (nI j) :: .ref (47 + 1) :: st) (ξ ++ memY σ) := by
  refine pv_iast hd (gy_timer hξ) hj (by decide) ?_
  rw [say_timer hξ]
  exact kk
theorem ly_hold {j : Nat} (hd : decode cc pc = .ok (.baload, 1)) (hξ : ξ.length = 40) (hj : j < 245) (kk : pv_V l D ty base b cc nL own ret nm R Ex Qf cells slots (pc + 1) L (.int (nI (σ 7 j)) :: st) (ξ ++ memY σ)) : pv_V l D ty base b cc nL own ret nm R Ex Qf cells slots pc L (.int (nI j) :: .ref (48 + 1) :: st) (ξ ++ memY σ) := pv_zald hd (gy_hold hξ) hj (by decide) kk
theorem say_hold {j v : Nat} (hξ : ξ.length = 40) : (ξ ++ memY σ).set 48 (.inl (1, 245, .inl (upd (fun j => nI (σ 7 j)) j (nI v)))) = ξ ++ memY (sU σ 7 j v) := sy_0 (k := 8) hξ (by rw [← nI_upd (g := 0)]; rfl)
theorem sy_hold {j v : Nat} (hd : decode cc pc = .ok (.bastore, 1)) (hξ : ξ.length = 40) (hj : j < 245) (hx : vp_nar .boolean (nI v) = nI v) (kk : pv_V l D ty base b cc nL own ret nm R Ex Qf cells slots (pc + 1) L st (ξ ++ memY (sU σ 7 j v))) : pv_V l D ty base b cc nL own ret nm R Ex Qf cells slots pc L (.int (nI v) :: .int (nI j) :: .ref (48 + 1) :: st) (ξ ++ memY σ) := by
  refine pv_zast hx hd (gy_hold hξ) hj (by decide) ?_
  rw [say_hold hξ]
  exact kk
theorem ly_logs {j : Nat} (hd : decode cc pc = .ok (.iaload, 1)) (hξ : ξ.length = 40) (hj : j < 240) (kk : pv_V l D ty base b cc nL own ret nm R Ex Qf cells slots (pc + 1) L (.int (nI (σ 8 j)) :: st) (ξ ++ memY σ)) : pv_V l D ty base b cc nL own ret nm R Ex Qf cells slots pc L (.int (nI j) :: .ref (49 + 1) :: st) (ξ ++ memY σ) := pv_iald hd (gy_logs hξ) hj (by decide) kk
theorem say_logs {j v : Nat} (hξ : ξ.length = 40) : (ξ ++ memY σ).set 49 (.inl (0, 240, .inl (upd (fun j => nI (σ 8 j)) j (nI v)))) = ξ ++ memY (sU σ 8 j v) := sy_0 (k := 9) hξ (by rw [← nI_upd (g := 0)]; rfl)
theorem sy_logs {j v : Nat} (hd : decode cc pc = .ok (.iastore, 1)) (hξ : ξ.length = 40) (hj : j < 240) (kk : pv_V l D ty base b cc nL own ret nm R Ex Qf cells slots (pc + 1) L st (ξ ++ memY (sU σ 8 j v))) : pv_V l D ty base b cc nL own ret nm R Ex Qf cells slots pc L (.int (nI v) :: .int (nI j) :: .ref (49 + 1) :: st) (ξ ++ memY σ) := by
  refine pv_iast hd (gy_logs hξ) hj (by decide) ?_
  rw [say_logs hξ]
  exact kk
theorem ly_entries {j : Nat} (hd : decode cc pc = .ok (.iaload, 1)) (hξ : ξ.length = 40) (hj : j < 5) (kk : pv_V l D ty base b cc nL own ret nm R Ex Qf cells slots (pc + 1) L (.int (nI (σ 9 j)) :: st) (ξ ++ memY σ)) : pv_V l D ty base b cc nL own ret nm R Ex Qf cells slots pc L (.int (nI j) :: .ref (50 + 1) :: st) (ξ ++ memY σ) := pv_iald hd (gy_entries hξ) hj (by decide) kk
theorem say_entries {j v : Nat} (hξ : ξ.length = 40) : (ξ ++ memY σ).set 50 (.inl (0, 5, .inl (upd (fun j => nI (σ 9 j)) j (nI v)))) = ξ ++ memY (sU σ 9 j v) := sy_0 (k := 10) hξ (by rw [← nI_upd (g := 0)]; rfl)
theorem sy_entries {j v : Nat} (hd : decode cc pc = .ok (.iastore, 1)) (hξ : ξ.length = 40) (hj : j < 5) (kk : pv_V l D ty base b cc nL own ret nm R Ex Qf cells slots (pc + 1) L st (ξ ++ memY (sU σ 9 j v))) : pv_V l D ty base b cc nL own ret nm R Ex Qf cells slots pc L (.int (nI v) :: .int (nI j) :: .ref (50 + 1) :: st) (ξ ++ memY σ) := by
  refine pv_iast hd (gy_entries hξ) hj (by decide) ?_
  rw [say_entries hξ]
  exact kk
theorem ly_origin {j : Nat} (hd : decode cc pc = .ok (.iaload, 1)) (hξ : ξ.length = 40) (hj : j < 49) (kk : pv_V l D ty base b cc nL own ret nm R Ex Qf cells slots (pc + 1) L (.int (nI (σ 11 j)) :: st) (ξ ++ memY σ)) : pv_V l D ty base b cc nL own ret nm R Ex Qf cells slots pc L (.int (nI j) :: .ref (51 + 1) :: st) (ξ ++ memY σ) := pv_iald hd (gy_origin hξ) hj (by decide) kk
theorem say_origin {j v : Nat} (hξ : ξ.length = 40) : (ξ ++ memY σ).set 51 (.inl (0, 49, .inl (upd (fun j => nI (σ 11 j)) j (nI v)))) = ξ ++ memY (sU σ 11 j v) := sy_0 (k := 11) hξ (by rw [← nI_upd (g := 0)]; rfl)
theorem sy_origin {j v : Nat} (hd : decode cc pc = .ok (.iastore, 1)) (hξ : ξ.length = 40) (hj : j < 49) (kk : pv_V l D ty base b cc nL own ret nm R Ex Qf cells slots (pc + 1) L st (ξ ++ memY (sU σ 11 j v))) : pv_V l D ty base b cc nL own ret nm R Ex Qf cells slots pc L (.int (nI v) :: .int (nI j) :: .ref (51 + 1) :: st) (ξ ++ memY σ) := by
  refine pv_iast hd (gy_origin hξ) hj (by decide) ?_
  rw [say_origin hξ]
  exact kk
theorem ly_isSafe {j : Nat} (hd : decode cc pc = .ok (.baload, 1)) (hξ : ξ.length = 40) (hj : j < 49) (kk : pv_V l D ty base b cc nL own ret nm R Ex Qf cells slots (pc + 1) L (.int (nI (σ 12 j)) :: st) (ξ ++ memY σ)) : pv_V l D ty base b cc nL own ret nm R Ex Qf cells slots pc L (.int (nI j) :: .ref (52 + 1) :: st) (ξ ++ memY σ) := pv_zald hd (gy_isSafe hξ) hj (by decide) kk
theorem say_isSafe {j v : Nat} (hξ : ξ.length = 40) : (ξ ++ memY σ).set 52 (.inl (1, 49, .inl (upd (fun j => nI (σ 12 j)) j (nI v)))) = ξ ++ memY (sU σ 12 j v) := sy_0 (k := 12) hξ (by rw [← nI_upd (g := 0)]; rfl)
theorem sy_isSafe {j v : Nat} (hd : decode cc pc = .ok (.bastore, 1)) (hξ : ξ.length = 40) (hj : j < 49) (hx : vp_nar .boolean (nI v) = nI v) (kk : pv_V l D ty base b cc nL own ret nm R Ex Qf cells slots (pc + 1) L st (ξ ++ memY (sU σ 12 j v))) : pv_V l D ty base b cc nL own ret nm R Ex Qf cells slots pc L (.int (nI v) :: .int (nI j) :: .ref (52 + 1) :: st) (ξ ++ memY σ) := by
  refine pv_zast hx hd (gy_isSafe hξ) hj (by decide) ?_
  rw [say_isSafe hξ]
  exact kk
theorem ly_gone {j : Nat} (hd : decode cc pc = .ok (.baload, 1)) (hξ : ξ.length = 40) (hj : j < 49) (kk : pv_V l D ty base b cc nL own ret nm R Ex Qf cells slots (pc + 1) L (.int (nI (σ 13 j)) :: st) (ξ ++ memY σ)) : pv_V l D ty base b cc nL own ret nm R Ex Qf cells slots pc L (.int (nI j) :: .ref (53 + 1) :: st) (ξ ++ memY σ) := pv_zald hd (gy_gone hξ) hj (by decide) kk
theorem say_gone {j v : Nat} (hξ : ξ.length = 40) : (ξ ++ memY σ).set 53 (.inl (1, 49, .inl (upd (fun j => nI (σ 13 j)) j (nI v)))) = ξ ++ memY (sU σ 13 j v) := sy_0 (k := 13) hξ (by rw [← nI_upd (g := 0)]; rfl)
theorem sy_gone {j v : Nat} (hd : decode cc pc = .ok (.bastore, 1)) (hξ : ξ.length = 40) (hj : j < 49) (hx : vp_nar .boolean (nI v) = nI v) (kk : pv_V l D ty base b cc nL own ret nm R Ex Qf cells slots (pc + 1) L st (ξ ++ memY (sU σ 13 j v))) : pv_V l D ty base b cc nL own ret nm R Ex Qf cells slots pc L (.int (nI v) :: .int (nI j) :: .ref (53 + 1) :: st) (ξ ++ memY σ) := by
  refine pv_zast hx hd (gy_gone hξ) hj (by decide) ?_
  rw [say_gone hξ]
  exact kk
theorem ly_ringIn {j : Nat} (hd : decode cc pc = .ok (.iaload, 1)) (hξ : ξ.length = 40) (hj : j < 49) (kk : pv_V l D ty base b cc nL own ret nm R Ex Qf cells slots (pc + 1) L (.int (nI (σ 14 j)) :: st) (ξ ++ memY σ)) : pv_V l D ty base b cc nL own ret nm R Ex Qf cells slots pc L (.int (nI j) :: .ref (54 + 1) :: st) (ξ ++ memY σ) := pv_iald hd (gy_ringIn hξ) hj (by decide) kk
theorem say_ringIn {j v : Nat} (hξ : ξ.length = 40) : (ξ ++ memY σ).set 54 (.inl (0, 49, .inl (upd (fun j => nI (σ 14 j)) j (nI v)))) = ξ ++ memY (sU σ 14 j v) := sy_0 (k := 14) hξ (by rw [← nI_upd (g := 0)]; rfl)
theorem sy_ringIn {j v : Nat} (hd : decode cc pc = .ok (.iastore, 1)) (hξ : ξ.length = 40) (hj : j < 49) (kk : pv_V l D ty base b cc nL own ret nm R Ex Qf cells slots (pc + 1) L st (ξ ++ memY (sU σ 14 j v))) : pv_V l D ty base b cc nL own ret nm R Ex Qf cells slots pc L (.int (nI v) :: .int (nI j) :: .ref (54 + 1) :: st) (ξ ++ memY σ) := by
  refine pv_iast hd (gy_ringIn hξ) hj (by decide) ?_
  rw [say_ringIn hξ]
  exact kk
theorem ly_number {j : Nat} (hd : decode cc pc = .ok (.iaload, 1)) (hξ : ξ.length = 40) (hj : j < 49) (kk : pv_V l D ty base b cc nL own ret nm R Ex Qf cells slots (pc + 1) L (.int (nI (σ 15 j)) :: st) (ξ ++ memY σ)) : pv_V l D ty base b cc nL own ret nm R Ex Qf cells slots pc L (.int (nI j) :: .ref (55 + 1) :: st) (ξ ++ memY σ) := pv_iald hd (gy_number hξ) hj (by decide) kk
theorem say_number {j v : Nat} (hξ : ξ.length = 40) : (ξ ++ memY σ).set 55 (.inl (0, 49, .inl (upd (fun j => nI (σ 15 j)) j (nI v)))) = ξ ++ memY (sU σ 15 j v) := sy_0 (k := 15) hξ (by rw [← nI_upd (g := 0)]; rfl)
theorem sy_number {j v : Nat} (hd : decode cc pc = .ok (.iastore, 1)) (hξ : ξ.length = 40) (hj : j < 49) (kk : pv_V l D ty base b cc nL own ret nm R Ex Qf cells slots (pc + 1) L st (ξ ++ memY (sU σ 15 j v))) : pv_V l D ty base b cc nL own ret nm R Ex Qf cells slots pc L (.int (nI v) :: .int (nI j) :: .ref (55 + 1) :: st) (ξ ++ memY σ) := by
  refine pv_iast hd (gy_number hξ) hj (by decide) ?_
  rw [say_number hξ]
  exact kk
theorem ly_at {j : Nat} (hd : decode cc pc = .ok (.iaload, 1)) (hξ : ξ.length = 40) (hj : j < 520) (kk : pv_V l D ty base b cc nL own ret nm R Ex Qf cells slots (pc + 1) L (.int (nI (σ 17 j) - 1) :: st) (ξ ++ memY σ)) : pv_V l D ty base b cc nL own ret nm R Ex Qf cells slots pc L (.int (nI j) :: .ref (56 + 1) :: st) (ξ ++ memY σ) := pv_iald hd (gy_at hξ) hj (by decide) kk
theorem say_at {j v : Nat} (hξ : ξ.length = 40) : (ξ ++ memY σ).set 56 (.inl (0, 520, .inl (upd (fun j => nI (σ 17 j) - 1) j (nI v - 1)))) = ξ ++ memY (sU σ 17 j v) := sy_0 (k := 16) hξ (by rw [← mI_upd (g := 0)]; rfl)
theorem sy_at {j v : Nat} (hd : decode cc pc = .ok (.iastore, 1)) (hξ : ξ.length = 40) (hj : j < 520) (kk : pv_V l D ty base b cc nL own ret nm R Ex Qf cells slots (pc + 1) L st (ξ ++ memY (sU σ 17 j v))) : pv_V l D ty base b cc nL own ret nm R Ex Qf cells slots pc L (.int (nI v - 1) :: .int (nI j) :: .ref (56 + 1) :: st) (ξ ++ memY σ) := by
  refine pv_iast hd (gy_at hξ) hj (by decide) ?_
  rw [say_at hξ]
  exact kk
theorem ly_latest {j : Nat} (hd : decode cc pc = .ok (.iaload, 1)) (hξ : ξ.length = 40) (hj : j < 520) (kk : pv_V l D ty base b cc nL own ret nm R Ex Qf cells slots (pc + 1) L (.int (nI (σ 18 j)) :: st) (ξ ++ memY σ)) : pv_V l D ty base b cc nL own ret nm R Ex Qf cells slots pc L (.int (nI j) :: .ref (57 + 1) :: st) (ξ ++ memY σ) := pv_iald hd (gy_latest hξ) hj (by decide) kk
theorem say_latest {j v : Nat} (hξ : ξ.length = 40) : (ξ ++ memY σ).set 57 (.inl (0, 520, .inl (upd (fun j => nI (σ 18 j)) j (nI v)))) = ξ ++ memY (sU σ 18 j v) := sy_0 (k := 17) hξ (by rw [← nI_upd (g := 0)]; rfl)
theorem sy_latest {j v : Nat} (hd : decode cc pc = .ok (.iastore, 1)) (hξ : ξ.length = 40) (hj : j < 520) (kk : pv_V l D ty base b cc nL own ret nm R Ex Qf cells slots (pc + 1) L st (ξ ++ memY (sU σ 18 j v))) : pv_V l D ty base b cc nL own ret nm R Ex Qf cells slots pc L (.int (nI v) :: .int (nI j) :: .ref (57 + 1) :: st) (ξ ++ memY σ) := by
  refine pv_iast hd (gy_latest hξ) hj (by decide) ?_
  rw [say_latest hξ]
  exact kk
theorem ly_memberBits {j : Nat} (hd : decode cc pc = .ok (.iaload, 1)) (hξ : ξ.length = 40) (hj : j < 520) (kk : pv_V l D ty base b cc nL own ret nm R Ex Qf cells slots (pc + 1) L (.int (nI (σ 19 j)) :: st) (ξ ++ memY σ)) : pv_V l D ty base b cc nL own ret nm R Ex Qf cells slots pc L (.int (nI j) :: .ref (58 + 1) :: st) (ξ ++ memY σ) := pv_iald hd (gy_memberBits hξ) hj (by decide) kk
theorem say_memberBits {j v : Nat} (hξ : ξ.length = 40) : (ξ ++ memY σ).set 58 (.inl (0, 520, .inl (upd (fun j => nI (σ 19 j)) j (nI v)))) = ξ ++ memY (sU σ 19 j v) := sy_0 (k := 18) hξ (by rw [← nI_upd (g := 0)]; rfl)
theorem sy_memberBits {j v : Nat} (hd : decode cc pc = .ok (.iastore, 1)) (hξ : ξ.length = 40) (hj : j < 520) (kk : pv_V l D ty base b cc nL own ret nm R Ex Qf cells slots (pc + 1) L st (ξ ++ memY (sU σ 19 j v))) : pv_V l D ty base b cc nL own ret nm R Ex Qf cells slots pc L (.int (nI v) :: .int (nI j) :: .ref (58 + 1) :: st) (ξ ++ memY σ) := by
  refine pv_iast hd (gy_memberBits hξ) hj (by decide) ?_
  rw [say_memberBits hξ]
  exact kk
theorem ly_marks {j : Nat} (hd : decode cc pc = .ok (.iaload, 1)) (hξ : ξ.length = 40) (hj : j < 2600) (kk : pv_V l D ty base b cc nL own ret nm R Ex Qf cells slots (pc + 1) L (.int (nI (σ 20 j)) :: st) (ξ ++ memY σ)) : pv_V l D ty base b cc nL own ret nm R Ex Qf cells slots pc L (.int (nI j) :: .ref (59 + 1) :: st) (ξ ++ memY σ) := pv_iald hd (gy_marks hξ) hj (by decide) kk
theorem say_marks {j v : Nat} (hξ : ξ.length = 40) : (ξ ++ memY σ).set 59 (.inl (0, 2600, .inl (upd (fun j => nI (σ 20 j)) j (nI v)))) = ξ ++ memY (sU σ 20 j v) := sy_0 (k := 19) hξ (by rw [← nI_upd (g := 0)]; rfl)
theorem sy_marks {j v : Nat} (hd : decode cc pc = .ok (.iastore, 1)) (hξ : ξ.length = 40) (hj : j < 2600) (kk : pv_V l D ty base b cc nL own ret nm R Ex Qf cells slots (pc + 1) L st (ξ ++ memY (sU σ 20 j v))) : pv_V l D ty base b cc nL own ret nm R Ex Qf cells slots pc L (.int (nI v) :: .int (nI j) :: .ref (59 + 1) :: st) (ξ ++ memY σ) := by
  refine pv_iast hd (gy_marks hξ) hj (by decide) ?_
  rw [say_marks hξ]
  exact kk
theorem ly_wanted {j : Nat} (hd : decode cc pc = .ok (.laload, 1)) (hξ : ξ.length = 40) (hj : j < 520) (kk : pv_V l D ty base b cc nL own ret nm R Ex Qf cells slots (pc + 1) L (.long (lN (σ 21 j)) :: st) (ξ ++ memY σ)) : pv_V l D ty base b cc nL own ret nm R Ex Qf cells slots pc L (.int (nI j) :: .ref (60 + 1) :: st) (ξ ++ memY σ) := pv_lald hd (gy_wanted hξ) hj (by decide) kk
theorem say_wanted {j v : Nat} (hξ : ξ.length = 40) : (ξ ++ memY σ).set 60 (.inl (2, 520, .inr (.inl (vp_updL (fun j => lN (σ 21 j)) j (lN v))))) = ξ ++ memY (sU σ 21 j v) := sy_0 (k := 20) hξ (by rw [← lN_upd (g := 0)]; rfl)
theorem sy_wanted {j v : Nat} (hd : decode cc pc = .ok (.lastore, 1)) (hξ : ξ.length = 40) (hj : j < 520) (kk : pv_V l D ty base b cc nL own ret nm R Ex Qf cells slots (pc + 1) L st (ξ ++ memY (sU σ 21 j v))) : pv_V l D ty base b cc nL own ret nm R Ex Qf cells slots pc L (.long (lN v) :: .int (nI j) :: .ref (60 + 1) :: st) (ξ ++ memY σ) := by
  refine pv_last hd (gy_wanted hξ) hj (by decide) ?_
  rw [say_wanted hξ]
  exact kk
end WORLD
end
section
/-! rows on bits, shifts and unsigned numbers, to paste: each family out of a closed proof of our own, whole with what it rests on; each by itself clean at Lean in its own claim (generation 39, form 5). Take a family whole -/
/-! ===== Int32 by its bits: bt x i ===== -/
def bt (x : Int32) (i : Nat) : Bool := x.toBitVec.getLsbD i
theorem b_ext {x y : Int32} (h : ∀ i, i < 32 → bt x i = bt y i) : x = y := Int32.toBitVec_inj.mp (BitVec.eq_of_getLsbD_eq (fun i hi => h i hi))
theorem b_or (x y : Int32) (i : Nat) : bt (x ||| y) i = (bt x i || bt y i) := by unfold bt; rw [Int32.toBitVec_or, BitVec.getLsbD_or]
theorem b_and (x y : Int32) (i : Nat) : bt (x &&& y) i = (bt x i && bt y i) := by unfold bt; rw [Int32.toBitVec_and, BitVec.getLsbD_and]
theorem b_xor (x y : Int32) (i : Nat) : bt (x ^^^ y) i = (bt x i ^^ bt y i) := by unfold bt; rw [Int32.toBitVec_xor, BitVec.getLsbD_xor]
theorem b_big {x : Int32} {i : Nat} (h : 32 ≤ i) : bt x i = false := BitVec.getLsbD_of_ge _ _ h
theorem b_255 (i : Nat) : bt 255 i = decide (i < 8) := by
  rcases Nat.lt_or_ge i 32 with h | h
  · exact (by decide +kernel : ∀ i, i < 32 → bt 255 i = decide (i < 8)) i h
  · rw [b_big h, decide_eq_false (by omega)]
theorem b_65535 (i : Nat) : bt 65535 i = decide (i < 16) := by
  rcases Nat.lt_or_ge i 32 with h | h
  · exact (by decide +kernel : ∀ i, i < 32 → bt 65535 i = decide (i < 16)) i h
  · rw [b_big h, decide_eq_false (by omega)]
theorem b_m1 : ∀ i, i < 32 → bt (-1) i = true := by decide +kernel
theorem b_0 (i : Nat) : bt 0 i = false := BitVec.getLsbD_zero
theorem s_l : ∀ n, n < 32 → ((nI n &&& 31).toBitVec.smod 32).toNat = n := by decide +kernel
theorem s_u : ∀ n, n < 32 → (((nI n).toUInt32 &&& Int32.toUInt32 31).toBitVec % 32).toNat = n := by decide +kernel
theorem b_shl (n : Nat) (hn : n < 32) (x : Int32) {i : Nat} (hi : i < 32) : bt (x <<< (nI n &&& 31)) i = (decide (n ≤ i) && bt x (i - n)) := by
  unfold bt
  rw [Int32.toBitVec_shiftLeft]
  show (x.toBitVec <<< ((nI n &&& 31).toBitVec.smod 32).toNat).getLsbD i = _
  rw [s_l n hn, BitVec.getLsbD_shiftLeft]
  rcases Nat.lt_or_ge i n with h | h
  · simp [h, Nat.not_le.mpr h]
  · simp [hi, h, Nat.not_lt.mpr h]
theorem b_ushr (n : Nat) (hn : n < 32) (x : Int32) (i : Nat) : bt ((x.toUInt32 >>> ((nI n).toUInt32 &&& Int32.toUInt32 31)).toInt32) i = bt x (n + i) := by
  show (x.toUInt32 >>> ((nI n).toUInt32 &&& Int32.toUInt32 31)).toBitVec.getLsbD i = x.toUInt32.toBitVec.getLsbD (n + i)
  rw [UInt32.toBitVec_shiftRight]
  show (x.toUInt32.toBitVec >>> (((nI n).toUInt32 &&& Int32.toUInt32 31).toBitVec % 32).toNat).getLsbD i = _
  rw [s_u n hn, BitVec.getLsbD_ushiftRight]
theorem b_sshr (n : Nat) (hn : n < 32) (x : Int32) {i : Nat} (hi : i < 32) : bt (x >>> (nI n &&& 31)) i = if n + i < 32 then bt x (n + i) else bt x 31 := by
  unfold bt
  rw [Int32.toBitVec_shiftRight]
  show (x.toBitVec.sshiftRight ((nI n &&& 31).toBitVec.smod 32).toNat).getLsbD i = _
  rw [s_l n hn, BitVec.getLsbD_sshiftRight, BitVec.msb_eq_getLsbD_last]
  simp [hi]
theorem b_shl8 (x : Int32) {i : Nat} (hi : i < 32) : bt (x <<< ((8 : Int32) &&& 31)) i = (decide (8 ≤ i) && bt x (i - 8)) := b_shl 8 (by omega) x hi
theorem b_shl16 (x : Int32) {i : Nat} (hi : i < 32) : bt (x <<< ((16 : Int32) &&& 31)) i = (decide (16 ≤ i) && bt x (i - 16)) := b_shl 16 (by omega) x hi
theorem b_shl24 (x : Int32) {i : Nat} (hi : i < 32) : bt (x <<< ((24 : Int32) &&& 31)) i = (decide (24 ≤ i) && bt x (i - 24)) := b_shl 24 (by omega) x hi
theorem b_sshr8 (x : Int32) {i : Nat} (hi : i < 32) : bt (x >>> ((8 : Int32) &&& 31)) i = if 8 + i < 32 then bt x (8 + i) else bt x 31 := b_sshr 8 (by omega) x hi
/-! ===== nI under and, xor, >>>, one bit, 65535 ===== -/
theorem nx_and (a b : Nat) : nI a &&& nI b = nI (a &&& b) := by
  apply Int32.toBitVec_inj.1
  show BitVec.ofNat 32 a &&& BitVec.ofNat 32 b = BitVec.ofNat 32 (a &&& b)
  apply BitVec.eq_of_getLsbD_eq
  intro i hi
  simp [hi]
theorem nx_xor (a b : Nat) : nI a ^^^ nI b = nI (a ^^^ b) := by
  apply Int32.toBitVec_inj.1
  show BitVec.ofNat 32 a ^^^ BitVec.ofNat 32 b = BitVec.ofNat 32 (a ^^^ b)
  apply BitVec.eq_of_getLsbD_eq
  intro i hi
  simp [hi]
theorem nx_cnt : ∀ j : Fin 32, (UInt32.ofNat j.val &&& Int32.toUInt32 31).toNat % 32 = j.val := by decide +kernel
theorem nx_ush {k j : Nat} (hk : k < 65536) (hj : j < 32) : ((nI k).toUInt32 >>> ((nI j).toUInt32 &&& Int32.toUInt32 31)).toInt32 = nI (k >>> j) := by
  have hs : k >>> j ≤ k := by
    rw [Nat.shiftRight_eq_div_pow]
    exact Nat.div_le_self _ _
  have e2 : UInt32.ofNat k >>> (UInt32.ofNat j &&& Int32.toUInt32 31) = UInt32.ofNat (k >>> j) := by
    apply UInt32.toNat_inj.1
    have h1 : (UInt32.ofNat k).toNat = k := Nat.mod_eq_of_lt (by omega)
    have h2 : (UInt32.ofNat (k >>> j)).toNat = k >>> j := Nat.mod_eq_of_lt (by omega)
    rw [UInt32.toNat_shiftRight, nx_cnt ⟨j, hj⟩, h1, h2]
  show (UInt32.ofNat k >>> (UInt32.ofNat j &&& Int32.toUInt32 31)).toInt32 = _
  rw [e2]
  rfl
theorem nx_bit {k j : Nat} (hk : k < 65536) (hj : j < 16) : (((nI k).toUInt32 >>> ((nI j).toUInt32 &&& Int32.toUInt32 31)).toInt32 &&& 1) = 0 ↔ k.testBit j = false := by
  rw [nx_ush hk (by omega)]
  show nI (k >>> j) &&& nI 1 = 0 ↔ _
  rw [nx_and, Nat.and_one_is_mod, ← nI_0, nI_eq (by omega) (by omega), Nat.testBit_eq_decide_div_mod_eq, Nat.shiftRight_eq_div_pow, decide_eq_false_iff_not]
  generalize k / 2 ^ j = z
  omega
theorem nx_mod (k : Nat) : nI k &&& 65535 = nI (k % 65536) := by
  show nI k &&& nI 65535 = _
  rw [nx_and, show (65535 : Nat) = 2 ^ 16 - 1 from rfl, Nat.and_two_pow_sub_one_eq_mod]
theorem nx_m16 {k : Nat} (h : k < 65536) : nI k &&& 65535 = nI k := by rw [nx_mod, Nat.mod_eq_of_lt h]
theorem nx_mask (x : Int32) : ∃ k, k < 65536 ∧ x &&& 65535 = nI k := by
  have e : x = nI x.toBitVec.toNat := by
    apply Int32.toBitVec_inj.1
    show x.toBitVec = BitVec.ofNat 32 x.toBitVec.toNat
    simp
  refine ⟨x.toBitVec.toNat % 65536, Nat.mod_lt _ (by omega), ?_⟩
  rw [← nx_mod, ← e]
/-! ===== Int32 as a set of bits: test, set ===== -/
def nf_M (m : Int32) : Nat := 4294967296 - m.toBitVec.toNat
theorem nf_sh : ∀ l, l < 32 → ((1 : Int32) <<< (nI l &&& 31)).toBitVec = BitVec.twoPow 32 l := by decide +kernel
theorem nf_sl : ∀ l, l < 32 → (((nI l).toUInt32 &&& Int32.toUInt32 31).toBitVec % 32).toNat = l := by decide +kernel
theorem nf_tp : ∀ l, l < 32 → BitVec.twoPow 32 l ≠ 0#32 := by decide +kernel
theorem nf_bit (m : Int32) (l : Nat) (hl : l < 32) : ((m.toUInt32 >>> ((nI l).toUInt32 &&& Int32.toUInt32 31)).toInt32 &&& 1) = 0 ↔ (m &&& ((1 : Int32) <<< (nI l &&& 31))) = 0 := by
  have e : ((m.toUInt32 >>> ((nI l).toUInt32 &&& Int32.toUInt32 31)).toInt32).toBitVec = m.toBitVec >>> l := by
    show m.toBitVec >>> (((nI l).toUInt32 &&& Int32.toUInt32 31).toBitVec % 32) = m.toBitVec >>> l
    rw [BitVec.ushiftRight_eq', nf_sl l hl]
  rw [← Int32.toBitVec_inj, ← Int32.toBitVec_inj, Int32.toBitVec_and, Int32.toBitVec_and, nf_sh l hl, e, BitVec.and_twoPow]
  show (m.toBitVec >>> l &&& 1#32) = 0#32 ↔ _ = 0#32
  rw [BitVec.and_one_eq_setWidth_ofBool_getLsbD, BitVec.getLsbD_ushiftRight, Nat.add_zero]
  cases hb : m.toBitVec.getLsbD l
  · exact ⟨fun _ => by simp, fun _ => by decide⟩
  · exact ⟨fun z => absurd z (by decide), fun z => absurd ((if_pos rfl).symm.trans z) (nf_tp l hl)⟩
theorem nf_gr (m k : Int32) (h : m &&& k = 0) (hk : k ≠ 0) : nf_M (m ||| k) < nf_M m := by
  have hm := m.toBitVec.isLt
  have hm' := (m ||| k).toBitVec.isLt
  have h1 : m.toBitVec.toNat ≤ (m ||| k).toBitVec.toNat := by
    rw [Int32.toBitVec_or, BitVec.toNat_or]
    exact Nat.left_le_or
  have h2 : m.toBitVec.toNat ≠ (m ||| k).toBitVec.toNat := by
    intro e
    have e2 : m = m ||| k := Int32.toBitVec_inj.mp (BitVec.eq_of_toNat_eq e)
    apply hk
    apply Int32.toBitVec_inj.mp
    show k.toBitVec = 0#32
    apply BitVec.eq_of_getLsbD_eq
    intro i hi
    have a : m.toBitVec.getLsbD i = (m.toBitVec.getLsbD i || k.toBitVec.getLsbD i) := by rw [← BitVec.getLsbD_or, ← Int32.toBitVec_or, ← e2]
    have b : (m.toBitVec.getLsbD i && k.toBitVec.getLsbD i) = false := by
      rw [← BitVec.getLsbD_and, ← Int32.toBitVec_and, h]
      exact BitVec.getLsbD_zero
    rw [BitVec.getLsbD_zero]
    revert a b
    cases m.toBitVec.getLsbD i <;> cases k.toBitVec.getLsbD i <;> simp
  unfold nf_M
  omega
/-! ===== a byte read unsigned ===== -/
theorem bp_b (x : Int32) : x.toInt8.toInt32 &&& 255 = x &&& 255 := by
  apply Int32.toBitVec_inj.mp
  rw [Int32.toBitVec_and, Int32.toBitVec_and, Int8.toBitVec_toInt32, Int32.toBitVec_toInt8]
  apply BitVec.eq_of_getLsbD_eq
  intro i hi
  rw [BitVec.getLsbD_and, BitVec.getLsbD_and]
  have hm : ∀ i < 32, 8 ≤ i → (255 : Int32).toBitVec.getLsbD i = false := by decide
  rcases Nat.lt_or_ge i 8 with z | z
  · rw [BitVec.getLsbD_signExtend, BitVec.getLsbD_signExtend, if_pos z, if_pos hi]
    simp only [z, hi, decide_true, Bool.true_and]
  · rw [hm i hi z]; simp
/-! ===== the char cast and 65535 ===== -/
/-! ===== Int64 as a set of bits: test, set, clear ===== -/
theorem ts_nf {x : Bool} (h : ¬ x = false) : x = true := by cases x <;> first | rfl | exact absurd rfl h
theorem ts_nt {x : Bool} (h : ¬ x = true) : x = false := by cases x <;> first | rfl | exact absurd rfl h
theorem ts_bit {w : Int64} {s : UInt64} {j : Nat} (hj : j < 64) (hs : s.toNat = j) : ((w.toUInt64 >>> s).toInt64 &&& 1) = 0 ↔ w.toBitVec.getLsbD j = false := by
  have e : (w.toUInt64 >>> s).toInt64.toBitVec = w.toBitVec >>> j := by
    apply BitVec.eq_of_toNat_eq
    show (w.toUInt64 >>> s).toNat = _
    rw [UInt64.toNat_shiftRight, hs, Nat.mod_eq_of_lt hj, BitVec.toNat_ushiftRight]
    rfl
  rw [← Int64.toBitVec_inj, Int64.toBitVec_and, e]
  show w.toBitVec >>> j &&& 1#64 = 0#64 ↔ _
  constructor
  · intro h
    have t := congrArg (fun x => x.getLsbD 0) h
    simpa using t
  · intro h
    apply BitVec.eq_of_getLsbD_eq
    intro i hi
    cases i with
    | zero => simp [h]
    | succ i => simp
theorem ts_or {w m : Int64} {j : Nat} (hj : j < 64) (hm : m.toBitVec = BitVec.twoPow 64 j) : (w ||| m) = w ↔ w.toBitVec.getLsbD j = true := by
  rw [← Int64.toBitVec_inj, Int64.toBitVec_or, hm]
  constructor
  · intro h
    have t := congrArg (fun x => x.getLsbD j) h
    simp only [BitVec.getLsbD_or, BitVec.getLsbD_twoPow] at t
    simpa [hj] using t.symm
  · intro h
    apply BitVec.eq_of_getLsbD_eq
    intro i hi
    rw [BitVec.getLsbD_or, BitVec.getLsbD_twoPow]
    by_cases e : j = i
    · subst e; rw [h, Bool.true_or]
    · simp [e]
theorem ts_and {w m : Int64} {j : Nat} (hj : j < 64) (hm : m.toBitVec = BitVec.twoPow 64 j) : (w &&& (m ^^^ (-1))) = w ↔ w.toBitVec.getLsbD j = false := by
  have ha : (-1 : Int64).toBitVec = BitVec.allOnes 64 := by decide
  rw [← Int64.toBitVec_inj, Int64.toBitVec_and, Int64.toBitVec_xor, hm, ha]
  constructor
  · intro h
    have t := congrArg (fun x => x.getLsbD j) h
    simp only [BitVec.getLsbD_and, BitVec.getLsbD_xor, BitVec.getLsbD_twoPow, BitVec.getLsbD_allOnes] at t
    simpa [hj] using t.symm
  · intro h
    apply BitVec.eq_of_getLsbD_eq
    intro i hi
    rw [BitVec.getLsbD_and, BitVec.getLsbD_xor, BitVec.getLsbD_twoPow, BitVec.getLsbD_allOnes]
    by_cases e : j = i
    · subst e; rw [h, Bool.false_and]
    · simp [e, hi]
/-! ===== lN n to 2^64: shifts, and, or, masks, one bit ===== -/
theorem wb_tb (n : Nat) : (lN n).toBitVec = BitVec.ofNat 64 n := rfl
theorem wb_inj {a b : Int64} (h : a.toBitVec = b.toBitVec) : a = b := Int64.toBitVec_inj.mp h
theorem wb_tn {n : Nat} (h : n < 2 ^ 64) : (lN n).toBitVec.toNat = n := by rw [wb_tb, BitVec.toNat_ofNat, Nat.mod_eq_of_lt h]
theorem wb_of (x : Int64) : ∃ n, n < 2 ^ 64 ∧ x = lN n := ⟨x.toBitVec.toNat, x.toBitVec.isLt, wb_inj (by rw [wb_tb]; simp)⟩
theorem wb_of32 (x : Int32) : ∃ n, n < 2 ^ 32 ∧ x = nI n := ⟨x.toBitVec.toNat, x.toBitVec.isLt, Int32.toBitVec_inj.mp (by show _ = BitVec.ofNat 32 _; simp)⟩
theorem wb_c : ∀ k, k < 64 → ((nI k).toInt64 &&& 63) = lN k := by decide +kernel
theorem wb_cu : ∀ k, k < 64 → ((nI k).toInt64.toUInt64 &&& Int64.toUInt64 63) = UInt64.ofNat k := by decide +kernel
theorem wb_sm : ∀ k, k < 64 → (BitVec.ofNat 64 k).smod 64 = BitVec.ofNat 64 k := by decide +kernel
theorem wb_pw {a b : Nat} (h : a ≤ b) : 2 ^ b = 2 ^ a * 2 ^ (b - a) := by rw [← Nat.pow_add]; congr 1; omega
theorem wb_lt2 {a b : Nat} (h : a < b) : 2 ^ a < 2 ^ b := Nat.pow_lt_pow_right (by decide) h
theorem wb_mod (n : Nat) : lN n = lN (n % 2 ^ 64) := wb_inj (by rw [wb_tb, wb_tb]; apply BitVec.eq_of_toNat_eq; rw [BitVec.toNat_ofNat, BitVec.toNat_ofNat, Nat.mod_mod])
theorem wb_shr {n k : Nat} (hn : n < 2 ^ 64) (hk : k < 64) : ((lN n).toUInt64 >>> ((nI k).toInt64.toUInt64 &&& Int64.toUInt64 63)).toInt64 = lN (n / 2 ^ k) := by
  rw [wb_cu k hk]
  apply wb_inj
  apply BitVec.eq_of_toNat_eq
  show ((lN n).toUInt64 >>> UInt64.ofNat k).toNat = (BitVec.ofNat 64 _).toNat
  have h1 : (UInt64.ofNat k).toNat = k := by
    show (BitVec.ofNat 64 k).toNat = k
    rw [BitVec.toNat_ofNat, Nat.mod_eq_of_lt (by omega)]
  have h2 : (lN n).toUInt64.toNat = n := wb_tn hn
  rw [UInt64.toNat_shiftRight, h1, h2, Nat.mod_eq_of_lt hk, Nat.shiftRight_eq_div_pow, BitVec.toNat_ofNat, Nat.mod_eq_of_lt (Nat.lt_of_le_of_lt (Nat.div_le_self _ _) hn)]
theorem wb_shl (n : Nat) {k : Nat} (hk : k < 64) : lN n <<< ((nI k).toInt64 &&& 63) = lN (n * 2 ^ k) := by
  rw [wb_c k hk]
  apply wb_inj
  rw [Int64.toBitVec_shiftLeft, wb_tb, wb_tb, wb_tb, wb_sm k hk]
  apply BitVec.eq_of_toNat_eq
  rw [BitVec.shiftLeft_eq', BitVec.toNat_shiftLeft, BitVec.toNat_ofNat, BitVec.toNat_ofNat, BitVec.toNat_ofNat, Nat.mod_eq_of_lt (show k < 2 ^ 64 by omega), Nat.shiftLeft_eq, Nat.mul_mod, Nat.mod_mod, ← Nat.mul_mod]
theorem wb_and {a b : Nat} (ha : a < 2 ^ 64) (hb : b < 2 ^ 64) : lN a &&& lN b = lN (a &&& b) := by
  apply wb_inj
  rw [Int64.toBitVec_and, wb_tb, wb_tb, wb_tb]
  apply BitVec.eq_of_toNat_eq
  rw [BitVec.toNat_and, BitVec.toNat_ofNat, BitVec.toNat_ofNat, BitVec.toNat_ofNat, Nat.mod_eq_of_lt ha, Nat.mod_eq_of_lt hb, Nat.mod_eq_of_lt (Nat.and_lt_two_pow _ hb)]
theorem wb_or {a b : Nat} (ha : a < 2 ^ 64) (hb : b < 2 ^ 64) : lN a ||| lN b = lN (a ||| b) := by
  apply wb_inj
  rw [Int64.toBitVec_or, wb_tb, wb_tb, wb_tb]
  apply BitVec.eq_of_toNat_eq
  rw [BitVec.toNat_or, BitVec.toNat_ofNat, BitVec.toNat_ofNat, BitVec.toNat_ofNat, Nat.mod_eq_of_lt ha, Nat.mod_eq_of_lt hb, Nat.mod_eq_of_lt (Nat.or_lt_two_pow ha hb)]
theorem wb_mask {n k : Nat} (hn : n < 2 ^ 64) (hk : k < 64) : lN n &&& lN (2 ^ k - 1) = lN (n % 2 ^ k) := by
  rw [wb_and hn (by have := wb_lt2 hk; omega), Nat.and_two_pow_sub_one_eq_mod]
theorem wb_a1 {n : Nat} (hn : n < 2 ^ 64) : lN n &&& 1 = lN (n % 2) := wb_mask (k := 1) hn (by decide)
theorem wb_bit {n k : Nat} (hn : n < 2 ^ 64) (hk : k < 64) : ((lN n).toUInt64 >>> ((nI k).toInt64.toUInt64 &&& Int64.toUInt64 63)).toInt64 &&& 1 = lN (n / 2 ^ k % 2) := by
  rw [wb_shr hn hk, wb_a1 (Nat.lt_of_le_of_lt (Nat.div_le_self _ _) hn)]
theorem wb_xor {q k : Nat} (hk : k < 63) (h : 2 ^ k ≤ q) (h2 : q < 2 ^ (k + 1)) : lN q ^^^ lN (2 ^ k) = lN (q - 2 ^ k) := by
  obtain ⟨r, rfl⟩ : ∃ r, q = 2 ^ k + r := ⟨q - 2 ^ k, by omega⟩
  have hr : r < 2 ^ k := by rw [Nat.pow_succ] at h2; omega
  have hx : (2 ^ k + r) ^^^ 2 ^ k = r := by
    apply Nat.eq_of_testBit_eq
    intro i
    rw [Nat.testBit_xor, Nat.testBit_two_pow]
    rcases Nat.lt_trichotomy i k with h | h | h
    · rw [Nat.testBit_two_pow_add_gt h]
      simp [show ¬ k = i by omega]
    · subst h
      rw [Nat.testBit_two_pow_add_eq]
      simp
    · have a1 : 2 ^ (k + 1) ≤ 2 ^ i := Nat.pow_le_pow_right (by decide) h
      rw [Nat.testBit_lt_two_pow (show 2 ^ k + r < 2 ^ i by omega), Nat.testBit_lt_two_pow (show r < 2 ^ i by omega)]
      simp [show ¬ k = i by omega]
  have b1 := wb_lt2 (show k + 1 < 64 by omega)
  have b2 := wb_lt2 (show k < 64 by omega)
  apply wb_inj
  rw [Int64.toBitVec_xor, wb_tb, wb_tb, wb_tb]
  apply BitVec.eq_of_toNat_eq
  rw [BitVec.toNat_xor, BitVec.toNat_ofNat, BitVec.toNat_ofNat, BitVec.toNat_ofNat, Nat.mod_eq_of_lt (by omega : 2 ^ k + r < 2 ^ 64), Nat.mod_eq_of_lt b2, hx, Nat.add_sub_cancel_left, Nat.mod_eq_of_lt (by omega)]
/-! ===== lN: masks, 'or' of parts that don't overlap is a sum ===== -/
theorem u_tn {n : Nat} (h : n < 2 ^ 64) : (UInt64.ofNat n).toNat = n := Nat.mod_eq_of_lt h
theorem g_and {a b c : Nat} (ha : a < 2 ^ 64) (hb : b < 2 ^ 64) (hc : a &&& b = c) : lN a &&& lN b = lN c := by
  subst hc
  have h : UInt64.ofNat a &&& UInt64.ofNat b = UInt64.ofNat (a &&& b) := UInt64.toNat_inj.mp (by rw [UInt64.toNat_and, u_tn ha, u_tn hb, u_tn (Nat.and_lt_two_pow a hb)])
  have h2 := congrArg UInt64.toInt64 h
  exact h2
theorem g_and1 {a : Nat} (ha : a < 2 ^ 64) : lN a &&& 1 = lN (a % 2) := g_and (b := 1) ha (by decide) (Nat.and_two_pow_sub_one_eq_mod a 1)
theorem g_mask {a s p : Nat} (hp : 2 ^ s = p) (hs : s < 64) (ha : a < 2 ^ 64) : lN a &&& lN (p - 1) = lN (a % p) := by
  subst hp
  have := Nat.pow_lt_pow_right (show 1 < 2 by decide) hs
  exact g_and ha (by omega) (Nat.and_two_pow_sub_one_eq_mod a s)
theorem g_or {k p a b : Nat} (hp : 2 ^ k = p) (ha : a < p) (h : b * p + a < 2 ^ 64) : lN (b * p) ||| lN a = lN (b * p + a) := by
  subst hp
  have h1 : b * 2 ^ k ||| a = b * 2 ^ k + a := by rw [← Nat.shiftLeft_eq, Nat.shiftLeft_add_eq_or_of_lt ha]
  have h3 : UInt64.ofNat (b * 2 ^ k) ||| UInt64.ofNat a = UInt64.ofNat (b * 2 ^ k + a) := UInt64.toNat_inj.mp (by rw [UInt64.toNat_or, u_tn (by omega), u_tn (by omega), u_tn h, h1])
  have h2 := congrArg UInt64.toInt64 h3
  exact h2
theorem g_or' {k p a b : Nat} (hp : 2 ^ k = p) (ha : a < p) (h : a + b * p < 2 ^ 64) : lN a ||| lN (b * p) = lN (a + b * p) := by
  rw [Int64.or_comm, g_or hp ha (by omega), Nat.add_comm]
theorem g_ushr {a k p : Nat} {y : UInt64} (hy : y = UInt64.ofNat k) (hk : k < 64) (hp : 2 ^ k = p) (ha : a < 2 ^ 64) : ((lN a).toUInt64 >>> y).toInt64 = lN (a / p) := by
  subst hy hp
  have h : UInt64.ofNat a >>> UInt64.ofNat k = UInt64.ofNat (a / 2 ^ k) := UInt64.toNat_inj.mp (by rw [UInt64.toNat_shiftRight, u_tn ha, u_tn (by omega), u_tn (Nat.lt_of_le_of_lt (Nat.div_le_self _ _) ha), Nat.mod_eq_of_lt hk, Nat.shiftRight_eq_div_pow])
  have h2 := congrArg UInt64.toInt64 h
  exact h2
theorem g_shl {a k p : Nat} {y : Int64} (hy : y.toBitVec.smod 64 = BitVec.ofNat 64 k) (hk : k < 64) (hp : 2 ^ k = p) (ha : a < 2 ^ 64) : lN a <<< y = lN (a * p) := by
  subst hp
  apply Int64.toBitVec_inj.mp
  rw [Int64.toBitVec_shiftLeft, hy]
  apply BitVec.eq_of_toNat_eq
  have hb : (lN a).toBitVec.toNat = a := Nat.mod_eq_of_lt ha
  have hk' : (BitVec.ofNat 64 k).toNat = k := Nat.mod_eq_of_lt (by omega)
  have h : ((lN a).toBitVec <<< BitVec.ofNat 64 k).toNat = (a * 2 ^ k) % 2 ^ 64 := by simp only [BitVec.shiftLeft_eq', BitVec.toNat_shiftLeft, hb, hk', Nat.shiftLeft_eq]
  exact h
/-! ===== lN to 2^62 under >> and >>> ===== -/
theorem pf_lI {a : Nat} (h : a < 2 ^ 63) : (lN a).toInt = (a : Int) := lg_ofNat_toInt h
theorem pf_shr {a d : Nat} {D : Int64} (hD : (D.toBitVec.smod 64).toNat = d) (h : a < 2 ^ 62) : lN a >>> D = lN (a / 2 ^ d) := by
  have hd : a / 2 ^ d ≤ a := Nat.div_le_self _ _
  apply Int64.toInt_inj.mp
  have e : (lN a >>> D).toInt = (lN a).toInt >>> d := by
    rw [← hD]
    exact BitVec.toInt_sshiftRight ..
  rw [e, Int.shiftRight_eq_div_pow, pf_lI (by omega), pf_lI (by omega)]
  rfl
theorem pf_ushr {a d : Nat} {D : UInt64} (hD : D.toNat % 64 = d) (h : a < 2 ^ 62) : ((lN a).toUInt64 >>> D).toInt64 = lN (a / 2 ^ d) := by
  have hd : a / 2 ^ d ≤ a := Nat.div_le_self _ _
  have e : (lN a).toUInt64 >>> D = UInt64.ofNat (a / 2 ^ d) := UInt64.toNat_inj.mp (by
    rw [UInt64.toNat_shiftRight, hD, Nat.shiftRight_eq_div_pow, UInt64.toNat_ofNat']
    show (UInt64.ofNat a).toNat / 2 ^ d = _
    rw [UInt64.toNat_ofNat', Nat.mod_eq_of_lt (by omega), Nat.mod_eq_of_lt (by omega)])
  rw [e]
  rfl
theorem pf_andw (x : Int64) : ∃ m, m < 2 ^ 32 ∧ x &&& 4294967295 = lN m := ⟨x.toBitVec.toNat % 2 ^ 32, Nat.mod_lt _ (by decide), Int64.toBitVec_inj.mp (BitVec.eq_of_toNat_eq (by
  show (x.toBitVec &&& 4294967295#64).toNat = (BitVec.ofNat 64 (x.toBitVec.toNat % 2 ^ 32)).toNat
  rw [BitVec.toNat_and, show (4294967295#64).toNat = 2 ^ 32 - 1 from by decide, Nat.and_two_pow_sub_one_eq_mod, BitVec.toNat_ofNat]
  omega))⟩
/-! ===== Int64 as an unsigned number: uN x ===== -/
def uN (x : Int64) : Nat := x.toUInt64.toNat
theorem uN_lt (x : Int64) : uN x < 18446744073709551616 := x.toUInt64.toNat_lt
theorem uN_inj {x y : Int64} (h : uN x = uN y) : x = y := congrArg UInt64.toInt64 (UInt64.toNat_inj.mp h)
theorem uN_add (x y : Int64) : uN (x + y) = (uN x + uN y) % 18446744073709551616 := by
  show (x.toUInt64 + y.toUInt64).toNat = _
  exact UInt64.toNat_add _ _
theorem uN_mul (x y : Int64) : uN (x * y) = (uN x * uN y) % 18446744073709551616 := by
  show (x.toUInt64 * y.toUInt64).toNat = _
  exact UInt64.toNat_mul _ _
theorem uN_shl (x : Int64) : uN (x <<< ((1 : Int32).toInt64 &&& 63)) = (2 * uN x) % 18446744073709551616 := by
  have h : (((1 : Int32).toInt64 &&& 63).toBitVec.smod 64).toNat = 1 := by decide
  show (x.toBitVec <<< (((1 : Int32).toInt64 &&& 63).toBitVec.smod 64).toNat).toNat = _
  rw [h, BitVec.toNat_shiftLeft, Nat.shiftLeft_eq, Nat.mul_comm]
  rfl
theorem uN_shr (x : Int64) (s : UInt64) : uN (x.toUInt64 >>> s).toInt64 = uN x / 2 ^ (s.toNat % 64) := by
  show (x.toUInt64 >>> s).toNat = _
  rw [UInt64.toNat_shiftRight, Nat.shiftRight_eq_div_pow]
  rfl
theorem uN_s32 (x : Int64) : uN (x.toUInt64 >>> ((32 : Int32).toInt64.toUInt64 &&& Int64.toUInt64 63)).toInt64 = uN x / 4294967296 := by
  have h : ((32 : Int32).toInt64.toUInt64 &&& Int64.toUInt64 63).toNat % 64 = 32 := by decide
  rw [uN_shr, h]
theorem uN_s63 (x : Int64) : uN (x.toUInt64 >>> ((63 : Int32).toInt64.toUInt64 &&& Int64.toUInt64 63)).toInt64 = uN x / 9223372036854775808 := by
  have h : ((63 : Int32).toInt64.toUInt64 &&& Int64.toUInt64 63).toNat % 64 = 63 := by decide
  rw [uN_shr, h]
theorem uN_lo (x : Int64) : uN (x &&& 4294967295) = uN x % 4294967296 := by
  show (x.toUInt64 &&& Int64.toUInt64 4294967295).toNat = _
  rw [UInt64.toNat_and]
  exact Nat.and_two_pow_sub_one_eq_mod _ 32
theorem uN_bit (x : Int64) : (x &&& 1) = 0 ↔ uN x % 2 = 0 := by
  have h : uN (x &&& 1) = uN x % 2 := by
    show (x.toUInt64 &&& Int64.toUInt64 1).toNat = _
    rw [UInt64.toNat_and]
    exact Nat.and_two_pow_sub_one_eq_mod _ 1
  rw [← h]
  exact ⟨fun z => by rw [z]; rfl, fun z => uN_inj (z.trans rfl)⟩
theorem uN_or {x y : Int64} (hy : uN y < 2) : uN ((x <<< ((1 : Int32).toInt64 &&& 63)) ||| y) = (2 * uN x) % 18446744073709551616 + uN y := by
  have h1 : uN ((x <<< ((1 : Int32).toInt64 &&& 63)) ||| y) = uN (x <<< ((1 : Int32).toInt64 &&& 63)) ||| uN y := UInt64.toNat_or _ _
  have h2 : (2 * uN x) % 18446744073709551616 = 2 ^ 1 * (uN x % 9223372036854775808) := by omega
  rw [h1, uN_shl, h2]
  exact (Nat.two_pow_add_eq_or_of_lt (i := 1) hy _).symm
theorem nat_xor {a : Nat} (h : a < 18446744073709551616) : a ^^^ 2 ^ 63 = (a + 9223372036854775808) % 18446744073709551616 := by
  have h1 : (a ^^^ 2 ^ 63) % 2 ^ 63 = a % 2 ^ 63 := by rw [Nat.xor_mod_two_pow, Nat.mod_self, Nat.xor_zero]
  have h2 : (a ^^^ 2 ^ 63) / 2 ^ 63 = (a / 2 ^ 63) ^^^ 1 := by rw [Nat.xor_div_two_pow, Nat.div_self (Nat.two_pow_pos 63)]
  have h3 : a / 2 ^ 63 = 0 ∨ a / 2 ^ 63 = 1 := by omega
  generalize a ^^^ 2 ^ 63 = t at h1 h2
  rcases h3 with h3 | h3
  · rw [h3] at h2
    have h2 : t / 2 ^ 63 = 1 := h2
    omega
  · rw [h3] at h2
    have h2 : t / 2 ^ 63 = 0 := h2
    omega
theorem uN_xor (x : Int64) : uN (x ^^^ (-9223372036854775808)) = (uN x + 9223372036854775808) % 18446744073709551616 := by
  rw [← nat_xor (uN_lt x)]
  exact UInt64.toNat_xor _ _
theorem uN_int (x : Int64) : x.toInt = if 2 * uN x < 18446744073709551616 then (uN x : Int) else (uN x : Int) - 18446744073709551616 := BitVec.toInt_eq_toNat_cond _
theorem uN_le (x y : Int64) : (x ^^^ (-9223372036854775808)) ≤ (y ^^^ (-9223372036854775808)) ↔ uN x ≤ uN y := by
  have hx := uN_lt x
  have hy := uN_lt y
  rw [Int64.le_iff_toInt_le, uN_int, uN_int, uN_xor, uN_xor]
  omega
theorem uN_sk (x : Int64) {k : Nat} (hk : k < 64) : uN (x.toUInt64 >>> ((nI k).toInt64.toUInt64 &&& Int64.toUInt64 63)).toInt64 = uN x / 2 ^ k := by
  have h : ((nI k).toInt64.toUInt64 &&& Int64.toUInt64 63).toNat % 64 = k := by
    rw [nI_l (by omega), UInt64.toNat_and]
    have e : (lN k).toUInt64.toNat = k % 2 ^ 64 := rfl
    have e2 : (Int64.toUInt64 63).toNat = 2 ^ 6 - 1 := by decide
    rw [e, e2, Nat.and_two_pow_sub_one_eq_mod]
    omega
  rw [uN_shr, h]
/-! ===== unsigned comparison by xor with the least ===== -/
theorem lN_bv (n : Nat) : (lN n).toBitVec = BitVec.ofNat 64 n := rfl
theorem lN_nat {n : Nat} (h : n < 2 ^ 64) : (lN n).toBitVec.toNat = n := by rw [lN_bv, BitVec.toNat_ofNat]; exact Nat.mod_eq_of_lt h
theorem lN_xor (a b : Nat) : lN a ^^^ lN b = lN (a ^^^ b) := by
  apply Int64.toBitVec_inj.mp; rw [Int64.toBitVec_xor, lN_bv, lN_bv, lN_bv]; apply BitVec.eq_of_getLsbD_eq; intro i hi; simp [BitVec.getLsbD_ofNat, Nat.testBit_xor, hi]
theorem lN_ti {m : Nat} (h : m < 2 ^ 64) : (lN m).toInt = if m < 2 ^ 63 then (m : Int) else (m : Int) - 2 ^ 64 := by
  have c := BitVec.toInt_eq_toNat_cond (lN m).toBitVec
  rw [lN_nat h] at c
  show (lN m).toBitVec.toInt = _
  rw [c]
  split <;> split <;> omega
theorem xor63 {x : Nat} (h : x < 2 ^ 63) : x ^^^ 2 ^ 63 = 2 ^ 63 + x := by
  apply Nat.eq_of_testBit_eq
  intro i
  rw [Nat.testBit_xor, Nat.testBit_two_pow]
  rcases Nat.lt_trichotomy i 63 with z | z | z
  · rw [Nat.testBit_two_pow_add_gt z, decide_eq_false (by omega)]; simp
  · subst z; rw [Nat.testBit_two_pow_add_eq]; simp
  · have hp : 2 ^ 64 ≤ 2 ^ i := Nat.pow_le_pow_right (by decide) z
    rw [Nat.testBit_lt_two_pow (show x < 2 ^ i by omega), Nat.testBit_lt_two_pow (show 2 ^ 63 + x < 2 ^ i by omega), decide_eq_false (by omega)]; rfl
theorem xorS {a : Nat} (h : a < 2 ^ 64) : (lN a ^^^ (-9223372036854775808)).toInt = (a : Int) - 2 ^ 63 := by
  rw [show (-9223372036854775808 : Int64) = lN (2 ^ 63) from by decide +kernel, lN_xor]
  rcases Nat.lt_or_ge a (2 ^ 63) with z | z
  · rw [xor63 z, lN_ti (by omega), if_neg (by omega)]; omega
  · obtain ⟨x, rfl⟩ : ∃ x, a = 2 ^ 63 + x := ⟨a - 2 ^ 63, by omega⟩
    rw [← xor63 (by omega), Nat.xor_assoc, Nat.xor_self, Nat.xor_zero, lN_ti (by omega), if_pos (by omega), xor63 (by omega)]; omega
theorem ultL {a b : Nat} (ha : a < 2 ^ 64) (hb : b < 2 ^ 64) : ((lN b ^^^ (-9223372036854775808)) ≤ (lN a ^^^ (-9223372036854775808))) ↔ b ≤ a := by
  rw [Int64.le_iff_toInt_le, xorS ha, xorS hb]; omega
/-! ===== Int64 masks of n low bits ===== -/
theorem cr_bits (W U M : BitVec 64) : ((W &&& U) &&& (U &&& (M ^^^ BitVec.allOnes 64))) = 0#64 ↔ (W &&& U) &&& M = W &&& U := by
  constructor
  · intro h
    apply BitVec.eq_of_getLsbD_eq
    intro i hi
    have e := congrArg (fun x => BitVec.getLsbD x i) h
    simp only [BitVec.getLsbD_and, BitVec.getLsbD_xor, BitVec.getLsbD_allOnes, BitVec.getLsbD_zero, hi, decide_true] at e ⊢
    revert e
    cases W.getLsbD i <;> cases U.getLsbD i <;> cases M.getLsbD i <;> decide
  · intro h
    apply BitVec.eq_of_getLsbD_eq
    intro i hi
    have e := congrArg (fun x => BitVec.getLsbD x i) h
    simp only [BitVec.getLsbD_and, BitVec.getLsbD_xor, BitVec.getLsbD_allOnes, BitVec.getLsbD_zero, hi, decide_true] at e ⊢
    revert e
    cases W.getLsbD i <;> cases U.getLsbD i <;> cases M.getLsbD i <;> decide
theorem cr_mask (w U m : Int64) (n : Nat) (hm : m.toBitVec.toNat = 2 ^ n - 1) : ((w &&& U) &&& (U &&& (m ^^^ (-1)))) = 0 ↔ (w &&& U).toBitVec.toNat < 2 ^ n := by
  have e0 : (-1 : Int64).toBitVec = BitVec.allOnes 64 := by decide
  have z0 : (0 : Int64).toBitVec = 0#64 := by decide
  rw [← Int64.toBitVec_inj, z0, Int64.toBitVec_and, Int64.toBitVec_and, Int64.toBitVec_and, Int64.toBitVec_xor, e0, cr_bits]
  generalize w.toBitVec &&& U.toBitVec = T
  rw [← BitVec.toNat_inj, BitVec.toNat_and, hm, Nat.and_two_pow_sub_one_eq_mod]
  constructor
  · intro h
    have t := Nat.mod_lt T.toNat (Nat.two_pow_pos n)
    rw [h] at t
    exact t
  · exact Nat.mod_eq_of_lt
theorem cr_shr (t : Int64) (x : UInt64) (n : Nat) (hx : x.toNat % 64 = n) : (t.toUInt64 >>> x).toInt64 = 0 ↔ t.toBitVec.toNat < 2 ^ n := by
  rw [← Int64.toBitVec_inj, ← BitVec.toNat_inj]
  show (t.toUInt64 >>> x).toNat = 0 ↔ t.toUInt64.toNat < 2 ^ n
  rw [UInt64.toNat_shiftRight, hx, Nat.shiftRight_eq_div_pow]
  constructor
  · intro h
    have d : t.toUInt64.toNat / 2 ^ n < 1 := by
      rw [h]
      decide
    have e := (Nat.div_lt_iff_lt_mul (Nat.two_pow_pos n)).mp d
    rw [Nat.one_mul] at e
    exact e
  · exact Nat.div_eq_of_lt
theorem cr_amt (s : Int64) : ∃ n, n < 64 ∧ s &&& 63 = lN n ∧ (s.toUInt64 &&& Int64.toUInt64 63).toNat % 64 = n := by
  have e : (s.toUInt64 &&& Int64.toUInt64 63).toNat = s.toUInt64.toNat % 2 ^ 6 := by
    rw [UInt64.toNat_and, show (Int64.toUInt64 63).toNat = 2 ^ 6 - 1 from by decide, Nat.and_two_pow_sub_one_eq_mod]
  refine ⟨s.toUInt64.toNat % 2 ^ 6, by omega, ?_, by omega⟩
  rw [← Int64.toBitVec_inj, ← BitVec.toNat_inj]
  show (s.toUInt64 &&& Int64.toUInt64 63).toNat = (BitVec.ofNat 64 (s.toUInt64.toNat % 2 ^ 6)).toNat
  rw [e, BitVec.toNat_ofNat]
  omega
end
section
/-! 07.num: the arithmetic of small numbers, over pv_V -/
section NUM
theorem nx_or (a b : Nat) : nI a ||| nI b = nI (a ||| b) := by
  apply Int32.toBitVec_inj.1
  show BitVec.ofNat 32 a ||| BitVec.ofNat 32 b = BitVec.ofNat 32 (a ||| b)
  apply BitVec.eq_of_getLsbD_eq
  intro i hi
  simp [hi]
theorem nu_shl1 {k : Nat} (hk : k < 31) : nI 1 <<< (nI k &&& 31) = nI (2 ^ k) := by
  have h := pk_shlN (n := 1) (nI k &&& 31) k (s_l k (by omega)) (by
    have := Nat.pow_lt_pow_right (a := 2) (by decide) (show k < 32 by omega)
    omega)
  rw [h, Nat.one_mul]
theorem nu_shr {a k : Nat} (ha : a < 2 ^ 31) (hk : k < 32) : nI a >>> (nI k &&& 31) = nI (a / 2 ^ k) := pk_shrN ha (nI k &&& 31) k (s_l k hk)
theorem lu_and (a b : Nat) : lN a &&& lN b = lN (a &&& b) := by
  apply Int64.toBitVec_inj.1
  show BitVec.ofNat 64 a &&& BitVec.ofNat 64 b = BitVec.ofNat 64 (a &&& b)
  apply BitVec.eq_of_getLsbD_eq
  intro i hi
  simp [hi]
theorem lu_or (a b : Nat) : lN a ||| lN b = lN (a ||| b) := by
  apply Int64.toBitVec_inj.1
  show BitVec.ofNat 64 a ||| BitVec.ofNat 64 b = BitVec.ofNat 64 (a ||| b)
  apply BitVec.eq_of_getLsbD_eq
  intro i hi
  simp [hi]
theorem lu_shl1 {k : Nat} (hk : k < 64) : lN 1 <<< ((nI k).toInt64 &&& 63) = lN (2 ^ k) := by
  rw [wb_shl 1 hk, Nat.one_mul]
theorem lu_not (a b : Nat) : lN a &&& (lN b ^^^ (-1)) = lN (a ^^^ (a &&& b)) := by
  apply Int64.toBitVec_inj.1
  show BitVec.ofNat 64 a &&& (BitVec.ofNat 64 b ^^^ BitVec.allOnes 64) = BitVec.ofNat 64 (a ^^^ (a &&& b))
  apply BitVec.eq_of_getLsbD_eq
  intro i hi
  simp only [BitVec.getLsbD_and, BitVec.getLsbD_xor, BitVec.getLsbD_ofNat, BitVec.getLsbD_allOnes, hi, decide_true, Bool.true_and, Nat.testBit_xor, Nat.testBit_and]
  cases a.testBit i <;> cases b.testBit i <;> rfl
theorem lu_cmp {x y : Int64} : lg_cmp x y = 0 ↔ x = y := by
  unfold lg_cmp
  by_cases h1 : x > y
  · rw [if_pos h1]
    constructor
    · intro h
      exact absurd h (by decide)
    · intro h
      subst h
      exact absurd h1 (Int64.lt_irrefl)
  · rw [if_neg h1]
    by_cases h2 : x = y
    · simp [h2]
    · simp [h2]
theorem lu_eq {a b : Nat} (ha : a < 2 ^ 63) (hb : b < 2 ^ 63) : lg_cmp (lN a) (lN b) = 0 ↔ a = b := by rw [lu_cmp]; exact pk_lEQ ha hb
theorem tb_and {a q : Nat} : a &&& 2 ^ q = 0 ↔ a.testBit q = false := by
  constructor
  · intro h
    have h1 : (a &&& 2 ^ q).testBit q = false := by rw [h]; simp
    simpa using h1
  · intro h
    apply Nat.eq_of_testBit_eq
    intro i
    by_cases hi : i = q
    · subst hi
      simp [h]
    · simp [Nat.testBit_two_pow_of_ne (Ne.symm hi)]
theorem tb_div {a q : Nat} : a / 2 ^ q &&& 1 = 1 ↔ a.testBit q = true := by
  rw [Nat.testBit_eq_decide_div_mod_eq, Nat.and_one_is_mod]
  simp
theorem tb_div0 {a q : Nat} : a / 2 ^ q &&& 1 = (if a.testBit q = true then 1 else 0) := by
  rw [Nat.testBit_eq_decide_div_mod_eq, Nat.and_one_is_mod]
  have : a / 2 ^ q % 2 = 0 ∨ a / 2 ^ q % 2 = 1 := by omega
  rcases this with h | h <;> simp [h]
theorem and_lt_pow {a b k : Nat} (h : b < 2 ^ k) : a &&& b < 2 ^ k := Nat.lt_of_le_of_lt Nat.and_le_right h
variable {l : Launch} {D : va_G} {ty : Nat → ClassId} {base b : Nat} {cc : ByteArray} {nL : Nat} {own : String} {ret : Option FieldType} {nm : String} {R : Room} {Ex : State → Prop} {Qf : List Frame → Array Value → State → State → Prop} {cells slots pc : Nat} {L : List (Option Value)} {st : List Value} {M : List va_E}
theorem pv_iaddN {x y : Nat} (hd : decode cc pc = .ok (.iadd, 1)) (k : pv_V l D ty base b cc nL own ret nm R Ex Qf cells slots (pc + 1) L (.int (nI (x + y)) :: st) M) : pv_V l D ty base b cc nL own ret nm R Ex Qf cells slots pc L (.int (nI y) :: .int (nI x) :: st) M := pv_iadd hd ((nI_add x y).symm ▸ k)
theorem pv_imulN {x y : Nat} (hd : decode cc pc = .ok (.imul, 1)) (k : pv_V l D ty base b cc nL own ret nm R Ex Qf cells slots (pc + 1) L (.int (nI (x * y)) :: st) M) : pv_V l D ty base b cc nL own ret nm R Ex Qf cells slots pc L (.int (nI y) :: .int (nI x) :: st) M := pv_imul hd ((pk_mul x y).symm ▸ k)
theorem pv_isubN {x y : Nat} (hd : decode cc pc = .ok (.isub, 1)) (h : y ≤ x) (k : pv_V l D ty base b cc nL own ret nm R Ex Qf cells slots (pc + 1) L (.int (nI (x - y)) :: st) M) : pv_V l D ty base b cc nL own ret nm R Ex Qf cells slots pc L (.int (nI y) :: .int (nI x) :: st) M := pv_isub hd ((pk_sub h).symm ▸ k)
theorem pv_iandN {x y : Nat} (hd : decode cc pc = .ok (.iand, 1)) (k : pv_V l D ty base b cc nL own ret nm R Ex Qf cells slots (pc + 1) L (.int (nI (x &&& y)) :: st) M) : pv_V l D ty base b cc nL own ret nm R Ex Qf cells slots pc L (.int (nI y) :: .int (nI x) :: st) M := pv_iand hd ((nx_and x y).symm ▸ k)
theorem pv_iorN {x y : Nat} (hd : decode cc pc = .ok (.ior, 1)) (k : pv_V l D ty base b cc nL own ret nm R Ex Qf cells slots (pc + 1) L (.int (nI (x ||| y)) :: st) M) : pv_V l D ty base b cc nL own ret nm R Ex Qf cells slots pc L (.int (nI y) :: .int (nI x) :: st) M := pv_ior hd ((nx_or x y).symm ▸ k)
theorem pv_ishrN {x y : Nat} (hd : decode cc pc = .ok (.ishr, 1)) (h1 : x < 2 ^ 31) (h2 : y < 32) (k : pv_V l D ty base b cc nL own ret nm R Ex Qf cells slots (pc + 1) L (.int (nI (x / 2 ^ y)) :: st) M) : pv_V l D ty base b cc nL own ret nm R Ex Qf cells slots pc L (.int (nI y) :: .int (nI x) :: st) M := pv_ishr hd ((nu_shr h1 h2).symm ▸ k)
theorem pv_ishl1 {y : Nat} (hd : decode cc pc = .ok (.ishl, 1)) (h : y < 31) (k : pv_V l D ty base b cc nL own ret nm R Ex Qf cells slots (pc + 1) L (.int (nI (2 ^ y)) :: st) M) : pv_V l D ty base b cc nL own ret nm R Ex Qf cells slots pc L (.int (nI y) :: .int (nI 1) :: st) M := pv_ishl hd ((nu_shl1 h).symm ▸ k)
theorem pv_iremN {x y : Nat} (hd : decode cc pc = .ok (.irem, 1)) (h1 : x < 2 ^ 31) (h2 : 0 < y) (h3 : y < 2 ^ 31) (k : pv_V l D ty base b cc nL own ret nm R Ex Qf cells slots (pc + 1) L (.int (nI (x % y)) :: st) M) : pv_V l D ty base b cc nL own ret nm R Ex Qf cells slots pc L (.int (nI y) :: .int (nI x) :: st) M := pv_irem hd (nI_ne0 h2 h3) ((pk_rem h1 h2 h3).symm ▸ k)
theorem pv_landN {x y : Nat} (hd : decode cc pc = .ok (.land, 1)) (k : pv_V l D ty base b cc nL own ret nm R Ex Qf cells slots (pc + 1) L (.long (lN (x &&& y)) :: st) M) : pv_V l D ty base b cc nL own ret nm R Ex Qf cells slots pc L (.long (lN y) :: .long (lN x) :: st) M := pv_land hd ((lu_and x y).symm ▸ k)
theorem pv_lorN {x y : Nat} (hd : decode cc pc = .ok (.lor, 1)) (k : pv_V l D ty base b cc nL own ret nm R Ex Qf cells slots (pc + 1) L (.long (lN (x ||| y)) :: st) M) : pv_V l D ty base b cc nL own ret nm R Ex Qf cells slots pc L (.long (lN y) :: .long (lN x) :: st) M := pv_lor hd ((lu_or x y).symm ▸ k)
theorem pv_landC {x y : Nat} (hd : decode cc pc = .ok (.land, 1)) (k : pv_V l D ty base b cc nL own ret nm R Ex Qf cells slots (pc + 1) L (.long (lN (x ^^^ (x &&& y))) :: st) M) : pv_V l D ty base b cc nL own ret nm R Ex Qf cells slots pc L (.long (lN y ^^^ (-1)) :: .long (lN x) :: st) M := pv_land hd ((lu_not x y).symm ▸ k)
theorem pv_lshl1 {y : Nat} (hd : decode cc pc = .ok (.lshl, 1)) (h : y < 64) (k : pv_V l D ty base b cc nL own ret nm R Ex Qf cells slots (pc + 1) L (.long (lN (2 ^ y)) :: st) M) : pv_V l D ty base b cc nL own ret nm R Ex Qf cells slots pc L (.int (nI y) :: .long (lN 1) :: st) M := pv_lshl hd ((lu_shl1 h).symm ▸ k)
theorem pv_lshrN {x y : Nat} (hd : decode cc pc = .ok (.lshr, 1)) (h1 : x < 2 ^ 62) (h2 : y < 64) (k : pv_V l D ty base b cc nL own ret nm R Ex Qf cells slots (pc + 1) L (.long (lN (x / 2 ^ y)) :: st) M) : pv_V l D ty base b cc nL own ret nm R Ex Qf cells slots pc L (.int (nI y) :: .long (lN x) :: st) M := pv_lshr hd (by rw [pf_shr (a := x) (d := y) (by rw [wb_c y h2, wb_tb, wb_sm y h2, BitVec.toNat_ofNat, Nat.mod_eq_of_lt (by omega)]) h1]; exact k)
theorem pv_l2iN {x : Nat} (hd : decode cc pc = .ok (.l2i, 1)) (k : pv_V l D ty base b cc nL own ret nm R Ex Qf cells slots (pc + 1) L (.int (nI x) :: st) M) : pv_V l D ty base b cc nL own ret nm R Ex Qf cells slots pc L (.long (lN x) :: st) M := pv_l2i hd ((lN_i x).symm ▸ k)
theorem pv_lcmp_eq {x y : Nat} {off : Int} (tgt : Nat) (hd : decode cc pc = .ok (.lcmp, 1)) (hd2 : decode cc (pc + 1) = .ok (.ifCond .eq off, 3)) (ht : ((pc + 1 : Nat) : Int) + off = (tgt : Int)) (h1 : x < 2 ^ 63) (h2 : y < 2 ^ 63) (k1 : (x = y) → pv_V l D ty base b cc nL own ret nm R Ex Qf cells slots tgt L st M) (k2 : (¬ x = y) → pv_V l D ty base b cc nL own ret nm R Ex Qf cells slots (pc + 1 + 3) L st M) : pv_V l D ty base b cc nL own ret nm R Ex Qf cells slots pc L (.long (lN y) :: .long (lN x) :: st) M := pv_lcmp hd (pv_if_eq tgt ht hd2 (fun h => k1 ((lu_eq h1 h2).mp h)) (fun h => k2 (fun z => h ((lu_eq h1 h2).mpr z))))
theorem pv_lcmp_ne {x y : Nat} {off : Int} (tgt : Nat) (hd : decode cc pc = .ok (.lcmp, 1)) (hd2 : decode cc (pc + 1) = .ok (.ifCond .ne off, 3)) (ht : ((pc + 1 : Nat) : Int) + off = (tgt : Int)) (h1 : x < 2 ^ 63) (h2 : y < 2 ^ 63) (k1 : (¬ x = y) → pv_V l D ty base b cc nL own ret nm R Ex Qf cells slots tgt L st M) (k2 : (x = y) → pv_V l D ty base b cc nL own ret nm R Ex Qf cells slots (pc + 1 + 3) L st M) : pv_V l D ty base b cc nL own ret nm R Ex Qf cells slots pc L (.long (lN y) :: .long (lN x) :: st) M := pv_lcmp hd (pv_if_ne tgt ht hd2 (fun h => k1 (fun z => h ((lu_eq h1 h2).mpr z))) (fun h => k2 ((lu_eq h1 h2).mp h)))
theorem pv_ifN_eq {x : Nat} {off : Int} (tgt : Nat) (ht : (pc : Int) + off = (tgt : Int)) (hd : decode cc pc = .ok (.ifCond .eq off, 3)) (hx : x < 2 ^ 31) (k1 : (x = 0) → pv_V l D ty base b cc nL own ret nm R Ex Qf cells slots tgt L st M) (k2 : (¬ x = 0) → pv_V l D ty base b cc nL own ret nm R Ex Qf cells slots (pc + 3) L st M) : pv_V l D ty base b cc nL own ret nm R Ex Qf cells slots pc L (.int (nI x) :: st) M := pv_if_eq tgt ht hd (fun h => k1 ((nI_eq hx (by decide)).mp h)) (fun h => k2 (fun z => h (by rw [z]; rfl)))
theorem pv_ifN_ne {x : Nat} {off : Int} (tgt : Nat) (ht : (pc : Int) + off = (tgt : Int)) (hd : decode cc pc = .ok (.ifCond .ne off, 3)) (hx : x < 2 ^ 31) (k1 : (¬ x = 0) → pv_V l D ty base b cc nL own ret nm R Ex Qf cells slots tgt L st M) (k2 : (x = 0) → pv_V l D ty base b cc nL own ret nm R Ex Qf cells slots (pc + 3) L st M) : pv_V l D ty base b cc nL own ret nm R Ex Qf cells slots pc L (.int (nI x) :: st) M := pv_if_ne tgt ht hd (fun h => k1 (fun z => h (by rw [z]; rfl))) (fun h => k2 ((nI_eq hx (by decide)).mp h))
theorem pv_ifN_le {x : Nat} {off : Int} (tgt : Nat) (ht : (pc : Int) + off = (tgt : Int)) (hd : decode cc pc = .ok (.ifCond .le off, 3)) (hx : x < 2 ^ 31) (k1 : (x = 0) → pv_V l D ty base b cc nL own ret nm R Ex Qf cells slots tgt L st M) (k2 : (0 < x) → pv_V l D ty base b cc nL own ret nm R Ex Qf cells slots (pc + 3) L st M) : pv_V l D ty base b cc nL own ret nm R Ex Qf cells slots pc L (.int (nI x) :: st) M := pv_if_le tgt ht hd (fun h => k1 (Nat.eq_zero_of_not_pos (fun z => nI_nle z hx h))) (fun h => k2 (Nat.pos_of_ne_zero (fun z => h (by rw [z]; decide))))
theorem pv_ifN_gt {x : Nat} {off : Int} (tgt : Nat) (ht : (pc : Int) + off = (tgt : Int)) (hd : decode cc pc = .ok (.ifCond .gt off, 3)) (hx : x < 2 ^ 31) (k1 : (0 < x) → pv_V l D ty base b cc nL own ret nm R Ex Qf cells slots tgt L st M) (k2 : (x = 0) → pv_V l D ty base b cc nL own ret nm R Ex Qf cells slots (pc + 3) L st M) : pv_V l D ty base b cc nL own ret nm R Ex Qf cells slots pc L (.int (nI x) :: st) M := pv_if_gt tgt ht hd (fun h => k1 (Nat.pos_of_ne_zero (fun z => by rw [z] at h; exact absurd h (by decide)))) (fun h => k2 (Nat.eq_zero_of_not_pos (fun z => h (by have := nI_lt z hx; exact this))))
theorem nI_max {x y : Nat} (hx : x < 2 ^ 31) (hy : y < 2 ^ 31) : (if nI x < nI y then nI y else nI x) = nI (max x y) := by
  by_cases h : x < y
  · rw [if_pos (nI_lt h hy), Nat.max_eq_right (Nat.le_of_lt h)]
  · rw [if_neg (nI_nlt (Nat.not_lt.mp h) hx), Nat.max_eq_left (Nat.not_lt.mp h)]
theorem nI_min {x y : Nat} (hx : x < 2 ^ 31) (hy : y < 2 ^ 31) : (if nI y < nI x then nI y else nI x) = nI (min x y) := by
  by_cases h : y < x
  · rw [if_pos (nI_lt h hx), Nat.min_eq_right (Nat.le_of_lt h)]
  · rw [if_neg (nI_nlt (Nat.not_lt.mp h) hy), Nat.min_eq_left (Nat.not_lt.mp h)]
theorem pv_mmaxN {idx x y : Nat} (hd : decode cc pc = .ok (.invokestatic idx, 3)) (hlk : Cond.methodLink own idx Lib.Math.max.name ∈ pv_T) (hst : Cond.static Lib.Math.max.name ∈ pv_T) (hini : Cond.initialized "java/lang/Math" ∈ pv_T) (hco : Cond.code Lib.Math.max.name Lib.Math.max.code 2 (some .int) ∈ pv_T) (hR : 1 ≤ R.frames) (hR2 : 21 ≤ R.locals) (hw : (st.map fun v => v.category).sum ≤ 8) (hc : cells ≤ R.cells) (hs : slots ≤ R.slots) (hx : x < 2 ^ 31) (hy : y < 2 ^ 31) (kk : pv_V l D ty base b cc nL own ret nm R Ex Qf cells slots (pc + 3) L (.int (nI (max x y)) :: st) M) : pv_V l D ty base b cc nL own ret nm R Ex Qf cells slots pc L (.int (nI y) :: .int (nI x) :: st) M := pv_mmax hlk hst hini hco hR hR2 hw hc hs hd (by rw [nI_max hx hy]; exact kk)
theorem pv_mminN {idx x y : Nat} (hd : decode cc pc = .ok (.invokestatic idx, 3)) (hlk : Cond.methodLink own idx Lib.Math.min.name ∈ pv_T) (hst : Cond.static Lib.Math.min.name ∈ pv_T) (hini : Cond.initialized "java/lang/Math" ∈ pv_T) (hco : Cond.code Lib.Math.min.name Lib.Math.min.code 2 (some .int) ∈ pv_T) (hR : 1 ≤ R.frames) (hR2 : 21 ≤ R.locals) (hw : (st.map fun v => v.category).sum ≤ 8) (hc : cells ≤ R.cells) (hs : slots ≤ R.slots) (hx : x < 2 ^ 31) (hy : y < 2 ^ 31) (kk : pv_V l D ty base b cc nL own ret nm R Ex Qf cells slots (pc + 3) L (.int (nI (min x y)) :: st) M) : pv_V l D ty base b cc nL own ret nm R Ex Qf cells slots pc L (.int (nI y) :: .int (nI x) :: st) M := pv_mmin hlk hst hini hco hR hR2 hw hc hs hd (by rw [nI_min hx hy]; exact kk)
end NUM
end
section
/-! 08.help: what the walker needs beside: callees' words, null or a ring, tokens -/
section HELP
theorem sb_O_init : pv_SB y_O_init c_O_init 2 none 0 := ⟨wc_O_init, wn_O, by decide +kernel⟩
theorem sb_O_broadcast : pv_SB y_O_broadcast c_O_broadcast 7 none 2 := ⟨wc_O_broadcast, wn_O, by decide +kernel⟩
theorem sb_O_broadcastNew : pv_SB y_O_broadcastNew c_O_broadcastNew 5 (some .int) 2 := ⟨wc_O_broadcastNew, wn_O, by decide +kernel⟩
theorem sb_O_broadcastRequests : pv_SB y_O_broadcastRequests c_O_broadcastRequests 5 (some .int) 2 := ⟨wc_O_broadcastRequests, wn_O, by decide +kernel⟩
theorem sb_O_crash : pv_SB y_O_crash c_O_crash 2 (some .boolean) 1 := ⟨wc_O_crash, wn_O, by decide +kernel⟩
theorem sb_O_deafen : pv_SB y_O_deafen c_O_deafen 3 (some .boolean) 2 := ⟨wc_O_deafen, wn_O, by decide +kernel⟩
theorem sb_O_deliverInRing : pv_SB y_O_deliverInRing c_O_deliverInRing 6 none 1 := ⟨wc_O_deliverInRing, wn_O, by decide +kernel⟩
theorem sb_O_deliverLeftOver : pv_SB y_O_deliverLeftOver c_O_deliverLeftOver 7 none 2 := ⟨wc_O_deliverLeftOver, wn_O, by decide +kernel⟩
theorem sb_O_deliverRegular : pv_SB y_O_deliverRegular c_O_deliverRegular 4 none 2 := ⟨wc_O_deliverRegular, wn_O, by decide +kernel⟩
theorem sb_O_deliverTransitional : pv_SB y_O_deliverTransitional c_O_deliverTransitional 7 none 3 := ⟨wc_O_deliverTransitional, wn_O, by decide +kernel⟩
theorem sb_O_delivered : pv_SB y_O_delivered c_O_delivered 2 (some .int) 1 := ⟨wc_O_delivered, wn_O, by decide +kernel⟩
theorem sb_O_drop : pv_SB y_O_drop c_O_drop 3 (some .boolean) 1 := ⟨wc_O_drop, wn_O, by decide +kernel⟩
theorem sb_O_enterNewRing : pv_SB y_O_enterNewRing c_O_enterNewRing 4 none 1 := ⟨wc_O_enterNewRing, wn_O, by decide +kernel⟩
theorem sb_O_formAnew : pv_SB y_O_formAnew c_O_formAnew 8 none 1 := ⟨wc_O_formAnew, wn_O, by decide +kernel⟩
theorem sb_O_hasStranger : pv_SB y_O_hasStranger c_O_hasStranger 6 (some .boolean) 1 := ⟨wc_O_hasStranger, wn_O, by decide +kernel⟩
theorem sb_O_hearEachOther : pv_SB y_O_hearEachOther c_O_hearEachOther 2 (some .boolean) 2 := ⟨wc_O_hearEachOther, wn_O, by decide +kernel⟩
theorem sb_O_isDeliverable : pv_SB y_O_isDeliverable c_O_isDeliverable 4 (some .boolean) 3 := ⟨wc_O_isDeliverable, wn_O, by decide +kernel⟩
theorem sb_O_isIn : pv_SB y_O_isIn c_O_isIn 2 (some .boolean) 2 := ⟨wc_O_isIn, wn_O, by decide +kernel⟩
theorem sb_O_isNode : pv_SB y_O_isNode c_O_isNode 1 (some .boolean) 1 := ⟨wc_O_isNode, wn_O, by decide +kernel⟩
theorem sb_O_isUpNode : pv_SB y_O_isUpNode c_O_isUpNode 2 (some .boolean) 1 := ⟨wc_O_isUpNode, wn_O, by decide +kernel⟩
theorem sb_O_last : pv_SB y_O_last c_O_last 3 (some .int) 1 := ⟨wc_O_last, wn_O, by decide +kernel⟩
theorem sb_O_line : pv_SB y_O_line c_O_line 3 (some .int) 1 := ⟨wc_O_line, wn_O, by decide +kernel⟩
theorem sb_O_log : pv_SB y_O_log c_O_log 4 (some .int) 2 := ⟨wc_O_log, wn_O, by decide +kernel⟩
theorem sb_O_members : pv_SB y_O_members c_O_members 3 (some .int) 1 := ⟨wc_O_members, wn_O, by decide +kernel⟩
theorem sb_O_nodesOf : pv_SB y_O_nodesOf c_O_nodesOf 4 (some .int) 1 := ⟨wc_O_nodesOf, wn_O, by decide +kernel⟩
theorem sb_O_passToken : pv_SB y_O_passToken c_O_passToken 4 none 2 := ⟨wc_O_passToken, wn_O, by decide +kernel⟩
theorem sb_O_place : pv_SB y_O_place c_O_place 3 (some .boolean) 2 := ⟨wc_O_place, wn_O, by decide +kernel⟩
theorem sb_O_reach : pv_SB y_O_reach c_O_reach 3 (some .int) 1 := ⟨wc_O_reach, wn_O, by decide +kernel⟩
theorem sb_O_requests : pv_SB y_O_requests c_O_requests 3 (some .int) 1 := ⟨wc_O_requests, wn_O, by decide +kernel⟩
theorem sb_O_restart : pv_SB y_O_restart c_O_restart 2 (some .boolean) 1 := ⟨wc_O_restart, wn_O, by decide +kernel⟩
theorem sb_O_ring : pv_SB y_O_ring c_O_ring 3 (some .int) 1 := ⟨wc_O_ring, wn_O, by decide +kernel⟩
theorem sb_O_send : pv_SB y_O_send c_O_send 5 (some .int) 2 := ⟨wc_O_send, wn_O, by decide +kernel⟩
theorem sb_O_stamp : pv_SB y_O_stamp c_O_stamp 2 (some .int) 1 := ⟨wc_O_stamp, wn_O, by decide +kernel⟩
theorem sb_O_tick : pv_SB y_O_tick c_O_tick 3 (some .int) 1 := ⟨wc_O_tick, wn_O, by decide +kernel⟩
theorem sb_O_token : pv_SB y_O_token c_O_token 3 (some .int) 1 := ⟨wc_O_token, wn_O, by decide +kernel⟩
theorem sb_O_unusedRing : pv_SB y_O_unusedRing c_O_unusedRing 2 (some (.object "RotatingTokenGroup$Ring")) 0 := ⟨wc_O_unusedRing, wn_O, by decide +kernel⟩
theorem sb_O_upNodesIn : pv_SB y_O_upNodesIn c_O_upNodesIn 4 (some .int) 1 := ⟨wc_O_upNodesIn, wn_O, by decide +kernel⟩
theorem sb_O_visit : pv_SB y_O_visit c_O_visit 6 (some .int) 1 := ⟨wc_O_visit, wn_O, by decide +kernel⟩
theorem sb_O_waiting : pv_SB y_O_waiting c_O_waiting 3 (some .int) 1 := ⟨wc_O_waiting, wn_O, by decide +kernel⟩
theorem sb_M_init : pv_SB y_M_init c_M_init 1 none 0 := ⟨wc_M_init, wn_M, by decide +kernel⟩
theorem sb_M_take : pv_SB y_M_take c_M_take 3 (some .int) 2 := ⟨wc_M_take, wn_M, by decide +kernel⟩
theorem sb_N_init : pv_SB y_N_init c_N_init 2 none 1 := ⟨wc_N_init, wn_N, by decide +kernel⟩
theorem sb_N_append : pv_SB y_N_append c_N_append 2 none 1 := ⟨wc_N_append, wn_N, by decide +kernel⟩
theorem sb_N_dequeue : pv_SB y_N_dequeue c_N_dequeue 3 (some .int) 0 := ⟨wc_N_dequeue, wn_N, by decide +kernel⟩
theorem sb_N_enqueue : pv_SB y_N_enqueue c_N_enqueue 2 none 1 := ⟨wc_N_enqueue, wn_N, by decide +kernel⟩
theorem sb_N_enter : pv_SB y_N_enter c_N_enter 2 none 1 := ⟨wc_N_enter, wn_N, by decide +kernel⟩
theorem sb_N_goDown : pv_SB y_N_goDown c_N_goDown 1 none 0 := ⟨wc_N_goDown, wn_N, by decide +kernel⟩
theorem sb_N_heldWithoutGap : pv_SB y_N_heldWithoutGap c_N_heldWithoutGap 2 (some .int) 0 := ⟨wc_N_heldWithoutGap, wn_N, by decide +kernel⟩
theorem sb_N_hold : pv_SB y_N_hold c_N_hold 2 none 1 := ⟨wc_N_hold, wn_N, by decide +kernel⟩
theorem sb_N_holds : pv_SB y_N_holds c_N_holds 2 (some .boolean) 1 := ⟨wc_N_holds, wn_N, by decide +kernel⟩
theorem sb_N_isUp : pv_SB y_N_isUp c_N_isUp 1 (some .boolean) 0 := ⟨wc_N_isUp, wn_N, by decide +kernel⟩
theorem sb_N_leaveRing : pv_SB y_N_leaveRing c_N_leaveRing 1 none 0 := ⟨wc_N_leaveRing, wn_N, by decide +kernel⟩
theorem sb_N_receive : pv_SB y_N_receive c_N_receive 2 none 1 := ⟨wc_N_receive, wn_N, by decide +kernel⟩
theorem sb_R_init : pv_SB y_R_init c_R_init 1 none 0 := ⟨wc_R_init, wn_R, by decide +kernel⟩
theorem sb_R_form : pv_SB y_R_form c_R_form 4 none 2 := ⟨wc_R_form, wn_R, by decide +kernel⟩
theorem sb_R_isRequested : pv_SB y_R_isRequested c_R_isRequested 2 (some .boolean) 1 := ⟨wc_R_isRequested, wn_R, by decide +kernel⟩
theorem sb_R_isTokenLost : pv_SB y_R_isTokenLost c_R_isTokenLost 1 (some .boolean) 0 := ⟨wc_R_isTokenLost, wn_R, by decide +kernel⟩
theorem sb_R_leastMark : pv_SB y_R_leastMark c_R_leastMark 3 (some .int) 0 := ⟨wc_R_leastMark, wn_R, by decide +kernel⟩
theorem sb_R_markAndRequest : pv_SB y_R_markAndRequest c_R_markAndRequest 3 none 1 := ⟨wc_R_markAndRequest, wn_R, by decide +kernel⟩
theorem sb_R_memberAfter : pv_SB y_R_memberAfter c_R_memberAfter 4 (some .int) 1 := ⟨wc_R_memberAfter, wn_R, by decide +kernel⟩
theorem sb_R_takeOffRequest : pv_SB y_R_takeOffRequest c_R_takeOffRequest 2 none 1 := ⟨wc_R_takeOffRequest, wn_R, by decide +kernel⟩
theorem sb_Y_init : pv_SB y_Y_init c_Y_init 2 none 0 := ⟨wc_Y_init, wn_Y, by decide +kernel⟩
theorem sb_Y_append : pv_SB y_Y_append c_Y_append 3 none 2 := ⟨wc_Y_append, wn_Y, by decide +kernel⟩
theorem sb_Y_broadcast : pv_SB y_Y_broadcast c_Y_broadcast 4 none 2 := ⟨wc_Y_broadcast, wn_Y, by decide +kernel⟩
theorem sb_Y_clean : pv_SB y_Y_clean c_Y_clean 3 none 1 := ⟨wc_Y_clean, wn_Y, by decide +kernel⟩
theorem sb_Y_crash : pv_SB y_Y_crash c_Y_crash 4 (some .boolean) 1 := ⟨wc_Y_crash, wn_Y, by decide +kernel⟩
theorem sb_Y_deafen : pv_SB y_Y_deafen c_Y_deafen 3 (some .boolean) 2 := ⟨wc_Y_deafen, wn_Y, by decide +kernel⟩
theorem sb_Y_deliver : pv_SB y_Y_deliver c_Y_deliver 6 none 1 := ⟨wc_Y_deliver, wn_Y, by decide +kernel⟩
theorem sb_Y_delivered : pv_SB y_Y_delivered c_Y_delivered 2 (some .int) 1 := ⟨wc_Y_delivered, wn_Y, by decide +kernel⟩
theorem sb_Y_drop : pv_SB y_Y_drop c_Y_drop 2 (some .boolean) 1 := ⟨wc_Y_drop, wn_Y, by decide +kernel⟩
theorem sb_Y_enter : pv_SB y_Y_enter c_Y_enter 3 none 1 := ⟨wc_Y_enter, wn_Y, by decide +kernel⟩
theorem sb_Y_finish : pv_SB y_Y_finish c_Y_finish 7 none 2 := ⟨wc_Y_finish, wn_Y, by decide +kernel⟩
theorem sb_Y_first : pv_SB y_Y_first c_Y_first 3 (some .int) 1 := ⟨wc_Y_first, wn_Y, by decide +kernel⟩
theorem sb_Y_form : pv_SB y_Y_form c_Y_form 7 none 1 := ⟨wc_Y_form, wn_Y, by decide +kernel⟩
theorem sb_Y_has : pv_SB y_Y_has c_Y_has 4 (some .boolean) 2 := ⟨wc_Y_has, wn_Y, by decide +kernel⟩
theorem sb_Y_hears : pv_SB y_Y_hears c_Y_hears 3 (some .boolean) 2 := ⟨wc_Y_hears, wn_Y, by decide +kernel⟩
theorem sb_Y_last : pv_SB y_Y_last c_Y_last 3 (some .int) 1 := ⟨wc_Y_last, wn_Y, by decide +kernel⟩
theorem sb_Y_line : pv_SB y_Y_line c_Y_line 3 (some .int) 1 := ⟨wc_Y_line, wn_Y, by decide +kernel⟩
theorem sb_Y_log : pv_SB y_Y_log c_Y_log 3 (some .int) 2 := ⟨wc_Y_log, wn_Y, by decide +kernel⟩
theorem sb_Y_members : pv_SB y_Y_members c_Y_members 3 (some .int) 1 := ⟨wc_Y_members, wn_Y, by decide +kernel⟩
theorem sb_Y_message : pv_SB y_Y_message c_Y_message 4 (some .int) 2 := ⟨wc_Y_message, wn_Y, by decide +kernel⟩
theorem sb_Y_newRing : pv_SB y_Y_newRing c_Y_newRing 3 none 2 := ⟨wc_Y_newRing, wn_Y, by decide +kernel⟩
theorem sb_Y_outside : pv_SB y_Y_outside c_Y_outside 1 (some .boolean) 1 := ⟨wc_Y_outside, wn_Y, by decide +kernel⟩
theorem sb_Y_passOn : pv_SB y_Y_passOn c_Y_passOn 6 none 2 := ⟨wc_Y_passOn, wn_Y, by decide +kernel⟩
theorem sb_Y_place : pv_SB y_Y_place c_Y_place 3 (some .boolean) 2 := ⟨wc_Y_place, wn_Y, by decide +kernel⟩
theorem sb_Y_queued : pv_SB y_Y_queued c_Y_queued 4 (some .int) 1 := ⟨wc_Y_queued, wn_Y, by decide +kernel⟩
theorem sb_Y_reach : pv_SB y_Y_reach c_Y_reach 3 (some .int) 1 := ⟨wc_Y_reach, wn_Y, by decide +kernel⟩
theorem sb_Y_reachOf : pv_SB y_Y_reachOf c_Y_reachOf 3 (some .int) 1 := ⟨wc_Y_reachOf, wn_Y, by decide +kernel⟩
theorem sb_Y_refuse : pv_SB y_Y_refuse c_Y_refuse 2 (some .int) 1 := ⟨wc_Y_refuse, wn_Y, by decide +kernel⟩
theorem sb_Y_requests : pv_SB y_Y_requests c_Y_requests 6 (some .int) 1 := ⟨wc_Y_requests, wn_Y, by decide +kernel⟩
theorem sb_Y_restart : pv_SB y_Y_restart c_Y_restart 2 (some .boolean) 1 := ⟨wc_Y_restart, wn_Y, by decide +kernel⟩
theorem sb_Y_ring : pv_SB y_Y_ring c_Y_ring 3 (some .int) 1 := ⟨wc_Y_ring, wn_Y, by decide +kernel⟩
theorem sb_Y_send : pv_SB y_Y_send c_Y_send 4 (some .int) 2 := ⟨wc_Y_send, wn_Y, by decide +kernel⟩
theorem sb_Y_sendAgain : pv_SB y_Y_sendAgain c_Y_sendAgain 7 (some .int) 2 := ⟨wc_Y_sendAgain, wn_Y, by decide +kernel⟩
theorem sb_Y_sendNew : pv_SB y_Y_sendNew c_Y_sendNew 6 (some .int) 2 := ⟨wc_Y_sendNew, wn_Y, by decide +kernel⟩
theorem sb_Y_share : pv_SB y_Y_share c_Y_share 6 none 1 := ⟨wc_Y_share, wn_Y, by decide +kernel⟩
theorem sb_Y_stamp : pv_SB y_Y_stamp c_Y_stamp 2 (some .int) 1 := ⟨wc_Y_stamp, wn_Y, by decide +kernel⟩
theorem sb_Y_stranger : pv_SB y_Y_stranger c_Y_stranger 4 (some .boolean) 1 := ⟨wc_Y_stranger, wn_Y, by decide +kernel⟩
theorem sb_Y_tick : pv_SB y_Y_tick c_Y_tick 3 (some .int) 1 := ⟨wc_Y_tick, wn_Y, by decide +kernel⟩
theorem sb_Y_together : pv_SB y_Y_together c_Y_together 5 (some .int) 2 := ⟨wc_Y_together, wn_Y, by decide +kernel⟩
theorem sb_Y_token : pv_SB y_Y_token c_Y_token 3 (some .int) 1 := ⟨wc_Y_token, wn_Y, by decide +kernel⟩
theorem sb_Y_visit : pv_SB y_Y_visit c_Y_visit 9 (some .int) 1 := ⟨wc_Y_visit, wn_Y, by decide +kernel⟩
theorem sb_Y_waiting : pv_SB y_Y_waiting c_Y_waiting 3 (some .int) 1 := ⟨wc_Y_waiting, wn_Y, by decide +kernel⟩
theorem sb_J_bitCount : pv_SB y_J_bitCount c_J_bitCount 2 (some .int) 1 := ⟨wc_J_bitCount, wn_J, by decide +kernel⟩
variable {l : Launch} {D : va_G} {ty : Nat → ClassId} {base b : Nat} {cc : ByteArray} {nL : Nat} {own : String} {ret : Option FieldType} {nm : String} {R : Room} {Ex : State → Prop} {Qf : List Frame → Array Value → State → State → Prop} {cells slots pc : Nat} {L : List (Option Value)} {st : List Value} {M : List va_E} {σ : Nat → Nat → Nat} {ρ ξ : List va_E}
theorem pv_splitX {x : Nat} (k1 : x = 0 → pv_V l D ty base b cc nL own ret nm R Ex Qf cells slots pc L (.null :: st) M) (k2 : ∀ r, x = r + 1 → pv_V l D ty base b cc nL own ret nm R Ex Qf cells slots pc L (.ref (pR r + 1) :: st) M) : pv_V l D ty base b cc nL own ret nm R Ex Qf cells slots pc L (pv_p (xp x) :: st) M := by
  cases x with
  | zero => exact k1 rfl
  | succ r => exact k2 r rfl
theorem pv_known {x r : Nat} (h : x = r + 1) (k : pv_V l D ty base b cc nL own ret nm R Ex Qf cells slots pc L (.ref (pR r + 1) :: st) M) : pv_V l D ty base b cc nL own ret nm R Ex Qf cells slots pc L (pv_p (xp x) :: st) M := by
  subst h
  exact k
theorem pv_ifnullX {x : Nat} {off : Int} (tgt : Nat) (ht : (pc : Int) + off = (tgt : Int)) (hd : decode cc pc = .ok (.ifnull off, 3)) (k1 : x = 0 → pv_V l D ty base b cc nL own ret nm R Ex Qf cells slots tgt L st M) (k2 : ∀ r, x = r + 1 → pv_V l D ty base b cc nL own ret nm R Ex Qf cells slots (pc + 3) L st M) : pv_V l D ty base b cc nL own ret nm R Ex Qf cells slots pc L (pv_p (xp x) :: st) M :=
  pv_splitX (fun h => pv_ifnullN tgt ht hd (k1 h)) (fun r h => pv_ifnull hd (k2 r h))
theorem pv_ifnonnullX {x : Nat} {off : Int} (tgt : Nat) (ht : (pc : Int) + off = (tgt : Int)) (hd : decode cc pc = .ok (.ifnonnull off, 3)) (k1 : x = 0 → pv_V l D ty base b cc nL own ret nm R Ex Qf cells slots (pc + 3) L st M) (k2 : ∀ r, x = r + 1 → pv_V l D ty base b cc nL own ret nm R Ex Qf cells slots tgt L st M) : pv_V l D ty base b cc nL own ret nm R Ex Qf cells slots pc L (pv_p (xp x) :: st) M :=
  pv_splitX (fun h => pv_ifnonnullN hd (k1 h)) (fun r h => pv_ifnonnull tgt ht hd (k2 r h))
theorem xp_inj {x y : Nat} (h : xp x = xp y) : x = y := by
  cases x <;> cases y <;> simp [xp, pR] at h <;> omega
theorem xp_some {x r : Nat} : xp x = some (pR r) ↔ x = r + 1 := by
  cases x with
  | zero => simp [xp]
  | succ q =>
    simp only [xp, pR, Option.some.injEq]
    omega
theorem pN_inj {x y : Nat} (h : some (pN x) = some (pN y)) : x = y := by
  simp only [pN, Option.some.injEq] at h
  omega
theorem pR_inj {x y : Nat} (h : some (pR x) = some (pR y)) : x = y := by
  simp only [pR, Option.some.injEq] at h
  omega
theorem nar_b {v : Nat} (h : v ≤ 1) : vp_nar .boolean (nI v) = nI v := by
  rcases (show v = 0 ∨ v = 1 by omega) with rfl | rfl <;> decide
theorem nw_b {v : Nat} (h : v ≤ 1) : narrow .boolean (.int (nI v)) = .int (nI v) := by
  rcases (show v = 0 ∨ v = 1 by omega) with rfl | rfl <;> decide
theorem m1_0 : (-1 : Int32) = nI 0 - 1 := by decide
theorem pR_tokenAtM {i idx : Nat} (hd : decode cc pc = .ok (.putfield idx, 3)) (hf : pv_F own idx 2 4) (hi : i < 6) (kk : pv_V l D ty base b cc nL own ret nm R Ex Qf cells slots (pc + 3) L st (memX (sU σ 12 i 0) ++ ρ)) : pv_V l D ty base b cc nL own ret nm R Ex Qf cells slots pc L (.int (-1) :: .ref (pR i + 1) :: st) (memX σ ++ ρ) := by
  rw [m1_0]
  exact pR_tokenAt hd hf hi kk
theorem pR_tokenAtI {i v idx : Nat} (hd : decode cc pc = .ok (.putfield idx, 3)) (hf : pv_F own idx 2 4) (hi : i < 6) (kk : pv_V l D ty base b cc nL own ret nm R Ex Qf cells slots (pc + 3) L st (memX (sU σ 12 i (v + 1)) ++ ρ)) : pv_V l D ty base b cc nL own ret nm R Ex Qf cells slots pc L (.int (nI v) :: .ref (pR i + 1) :: st) (memX σ ++ ρ) := by
  rw [← nI_pred v]
  exact pR_tokenAt hd hf hi kk
theorem sy_atM {j : Nat} (hd : decode cc pc = .ok (.iastore, 1)) (hξ : ξ.length = 40) (hj : j < 520) (kk : pv_V l D ty base b cc nL own ret nm R Ex Qf cells slots (pc + 1) L st (ξ ++ memY (sU σ 17 j 0))) : pv_V l D ty base b cc nL own ret nm R Ex Qf cells slots pc L (.int (-1) :: .int (nI j) :: .ref (56 + 1) :: st) (ξ ++ memY σ) := by
  rw [m1_0]
  exact sy_at hd hξ hj kk
theorem sy_atI {j v : Nat} (hd : decode cc pc = .ok (.iastore, 1)) (hξ : ξ.length = 40) (hj : j < 520) (kk : pv_V l D ty base b cc nL own ret nm R Ex Qf cells slots (pc + 1) L st (ξ ++ memY (sU σ 17 j (v + 1)))) : pv_V l D ty base b cc nL own ret nm R Ex Qf cells slots pc L (.int (nI v) :: .int (nI j) :: .ref (56 + 1) :: st) (ξ ++ memY σ) := by
  rw [← nI_pred v]
  exact sy_at hd hξ hj kk
/-- a token's place, one less: none, or a node -/
theorem tk_eq {t n : Nat} (ht : t < 2 ^ 31) (hn : n < 2 ^ 30) : nI t - 1 = nI n ↔ t = n + 1 := by
  constructor
  · intro h
    have h2 : nI t = nI (n + 1) := by
      rw [nI_succ, ← h]
      exact (Int32.sub_add_cancel _ _).symm
    exact (nI_eq ht (by omega)).mp h2
  · intro h
    rw [h]
    exact nI_pred n
theorem tk_m1 {t : Nat} (ht : t < 2 ^ 31) : nI t - 1 = -1 ↔ t = 0 := by
  constructor
  · intro h
    have h2 : nI t = nI 0 := by
      have := congrArg (· + 1) h
      simp only [Int32.sub_add_cancel] at this
      rw [this]
      decide
    exact (nI_eq ht (by decide)).mp h2
  · intro h
    rw [h]
    decide
theorem pv_l_none {ad : Nat → Nat} {L : List (Option Value)} {i : Nat} {q : Nat × Value} (h : q ∈ pv_l ad 0 (L.set i none)) : q ∈ pv_l ad 0 L := by
  obtain ⟨k, v, h1, h2⟩ := pv_l_of _ _ q h
  subst h2
  by_cases hk : i = k
  · subst hk
    by_cases hl : i < L.length
    · rw [List.getElem?_set_self hl] at h1
      cases h1
    · rw [List.getElem?_eq_none (by rw [List.length_set]; omega)] at h1
      cases h1
  · rw [List.getElem?_set_ne hk] at h1
    exact pv_l_in L 0 k v h1
theorem pv_forget (i : Nat) (k : pv_V l D ty base b cc nL own ret nm R Ex Qf cells slots pc (L.set i none) st M) : pv_V l D ty base b cc nL own ret nm R Ex Qf cells slots pc L st M :=
  fun p e s m args below meth c C H locs ls hl hP hS => k p e s m args below meth c C H locs ls ⟨hl.1, hl.2.1, fun q hq => hl.2.2 q (pv_l_none hq)⟩ hP hS
theorem pv_lst3 {x : Int64} {a0 a1 a2 a3 : Option Value} {t : List (Option Value)} (hd : decode cc pc = .ok (.lstore_n 3, 1)) (hn : pv_n2 (a0 :: a1 :: a2 :: a3 :: none :: t) 3 = true) (hnL : 4 < nL) (k : pv_V l D ty base b cc nL own ret nm R Ex Qf cells slots (pc + 1) (a0 :: a1 :: a2 :: some (.long x) :: none :: t) st M) : pv_V l D ty base b cc nL own ret nm R Ex Qf cells slots pc (a0 :: a1 :: a2 :: a3 :: none :: t) (.long x :: st) M := pv_lstore_n (i := 3) hd rfl hn (by simp) (fun w h => by simp at h) hnL k
theorem pv_lst0 {x : Int64} {a0 : Option Value} {t : List (Option Value)} (hd : decode cc pc = .ok (.lstore_n 0, 1)) (hn : pv_n2 (a0 :: none :: t) 0 = true) (hnL : 1 < nL) (k : pv_V l D ty base b cc nL own ret nm R Ex Qf cells slots (pc + 1) (some (.long x) :: none :: t) st M) : pv_V l D ty base b cc nL own ret nm R Ex Qf cells slots pc (a0 :: none :: t) (.long x :: st) M := pv_lstore_n (i := 0) hd rfl hn (by simp) (fun w h => by simp at h) hnL k
theorem pv_fg0 {a0 : Option Value} {t : List (Option Value)} (k : pv_V l D ty base b cc nL own ret nm R Ex Qf cells slots pc (none :: t) st M) : pv_V l D ty base b cc nL own ret nm R Ex Qf cells slots pc (a0 :: t) st M := pv_forget 0 k
theorem pv_fg1 {a0 a1 : Option Value} {t : List (Option Value)} (k : pv_V l D ty base b cc nL own ret nm R Ex Qf cells slots pc (a0 :: none :: t) st M) : pv_V l D ty base b cc nL own ret nm R Ex Qf cells slots pc (a0 :: a1 :: t) st M := pv_forget 1 k
theorem pv_fg2 {a0 a1 a2 : Option Value} {t : List (Option Value)} (k : pv_V l D ty base b cc nL own ret nm R Ex Qf cells slots pc (a0 :: a1 :: none :: t) st M) : pv_V l D ty base b cc nL own ret nm R Ex Qf cells slots pc (a0 :: a1 :: a2 :: t) st M := pv_forget 2 k
theorem pv_fg3 {a0 a1 a2 a3 : Option Value} {t : List (Option Value)} (k : pv_V l D ty base b cc nL own ret nm R Ex Qf cells slots pc (a0 :: a1 :: a2 :: none :: t) st M) : pv_V l D ty base b cc nL own ret nm R Ex Qf cells slots pc (a0 :: a1 :: a2 :: a3 :: t) st M := pv_forget 3 k
theorem pv_fg4 {a0 a1 a2 a3 a4 : Option Value} {t : List (Option Value)} (k : pv_V l D ty base b cc nL own ret nm R Ex Qf cells slots pc (a0 :: a1 :: a2 :: a3 :: none :: t) st M) : pv_V l D ty base b cc nL own ret nm R Ex Qf cells slots pc (a0 :: a1 :: a2 :: a3 :: a4 :: t) st M := pv_forget 4 k
theorem pv_fg5 {a0 a1 a2 a3 a4 a5 : Option Value} {t : List (Option Value)} (k : pv_V l D ty base b cc nL own ret nm R Ex Qf cells slots pc (a0 :: a1 :: a2 :: a3 :: a4 :: none :: t) st M) : pv_V l D ty base b cc nL own ret nm R Ex Qf cells slots pc (a0 :: a1 :: a2 :: a3 :: a4 :: a5 :: t) st M := pv_forget 5 k
theorem pv_fg6 {a0 a1 a2 a3 a4 a5 a6 : Option Value} {t : List (Option Value)} (k : pv_V l D ty base b cc nL own ret nm R Ex Qf cells slots pc (a0 :: a1 :: a2 :: a3 :: a4 :: a5 :: none :: t) st M) : pv_V l D ty base b cc nL own ret nm R Ex Qf cells slots pc (a0 :: a1 :: a2 :: a3 :: a4 :: a5 :: a6 :: t) st M := pv_forget 6 k
theorem pv_fg7 {a0 a1 a2 a3 a4 a5 a6 a7 : Option Value} {t : List (Option Value)} (k : pv_V l D ty base b cc nL own ret nm R Ex Qf cells slots pc (a0 :: a1 :: a2 :: a3 :: a4 :: a5 :: a6 :: none :: t) st M) : pv_V l D ty base b cc nL own ret nm R Ex Qf cells slots pc (a0 :: a1 :: a2 :: a3 :: a4 :: a5 :: a6 :: a7 :: t) st M := pv_forget 7 k
theorem pv_fg8 {a0 a1 a2 a3 a4 a5 a6 a7 a8 : Option Value} {t : List (Option Value)} (k : pv_V l D ty base b cc nL own ret nm R Ex Qf cells slots pc (a0 :: a1 :: a2 :: a3 :: a4 :: a5 :: a6 :: a7 :: none :: t) st M) : pv_V l D ty base b cc nL own ret nm R Ex Qf cells slots pc (a0 :: a1 :: a2 :: a3 :: a4 :: a5 :: a6 :: a7 :: a8 :: t) st M := pv_forget 8 k
theorem pv_fg9 {a0 a1 a2 a3 a4 a5 a6 a7 a8 a9 : Option Value} {t : List (Option Value)} (k : pv_V l D ty base b cc nL own ret nm R Ex Qf cells slots pc (a0 :: a1 :: a2 :: a3 :: a4 :: a5 :: a6 :: a7 :: a8 :: none :: t) st M) : pv_V l D ty base b cc nL own ret nm R Ex Qf cells slots pc (a0 :: a1 :: a2 :: a3 :: a4 :: a5 :: a6 :: a7 :: a8 :: a9 :: t) st M := pv_forget 9 k
theorem pv_fg10 {a0 a1 a2 a3 a4 a5 a6 a7 a8 a9 a10 : Option Value} {t : List (Option Value)} (k : pv_V l D ty base b cc nL own ret nm R Ex Qf cells slots pc (a0 :: a1 :: a2 :: a3 :: a4 :: a5 :: a6 :: a7 :: a8 :: a9 :: none :: t) st M) : pv_V l D ty base b cc nL own ret nm R Ex Qf cells slots pc (a0 :: a1 :: a2 :: a3 :: a4 :: a5 :: a6 :: a7 :: a8 :: a9 :: a10 :: t) st M := pv_forget 10 k
theorem pv_fg11 {a0 a1 a2 a3 a4 a5 a6 a7 a8 a9 a10 a11 : Option Value} {t : List (Option Value)} (k : pv_V l D ty base b cc nL own ret nm R Ex Qf cells slots pc (a0 :: a1 :: a2 :: a3 :: a4 :: a5 :: a6 :: a7 :: a8 :: a9 :: a10 :: none :: t) st M) : pv_V l D ty base b cc nL own ret nm R Ex Qf cells slots pc (a0 :: a1 :: a2 :: a3 :: a4 :: a5 :: a6 :: a7 :: a8 :: a9 :: a10 :: a11 :: t) st M := pv_forget 11 k
theorem pv_fg12 {a0 a1 a2 a3 a4 a5 a6 a7 a8 a9 a10 a11 a12 : Option Value} {t : List (Option Value)} (k : pv_V l D ty base b cc nL own ret nm R Ex Qf cells slots pc (a0 :: a1 :: a2 :: a3 :: a4 :: a5 :: a6 :: a7 :: a8 :: a9 :: a10 :: a11 :: none :: t) st M) : pv_V l D ty base b cc nL own ret nm R Ex Qf cells slots pc (a0 :: a1 :: a2 :: a3 :: a4 :: a5 :: a6 :: a7 :: a8 :: a9 :: a10 :: a11 :: a12 :: t) st M := pv_forget 12 k
end HELP
end
section
/-! 09.pure: what the class's methods do, on its state σ. σ 0 0 greatestRing; of node n: 1 ring (0: none), 2 held, 3 queued, 4 logged, 5 area, 6 line, 7 place, 8 deafness, 9 timer; of ring r: 10 number, 11 members, 12 tokenAt + 1, 13 last, 14 requests; 15 taken; 20 + n queue, 30 + n entries, 40 + r messageAt, 50 + r marks, 60 origins, 61 safe, 62 stamps -/
section PURE
def it {α : Type} (f : Nat → α → α) (a : α) : Nat → α
  | 0 => a
  | k + 1 => f k (it f a k)
def rch (h : Nat → Bool) : Nat → Nat → Nat
  | 0, a => a
  | k + 1, a => if h (a + 1) = true then rch h k (a + 1) else a
def fnd (p : Nat → Bool) : Nat → Nat → Nat
  | 0, _ => 0
  | k + 1, m => if p m = true then m else fnd p k (m + 1)
def b2 (c : Bool) : Nat := if c = true then 1 else 0
theorem b2_0 {c : Bool} : b2 c = 0 ↔ c = false := by cases c <;> decide
theorem b2_n0 {c : Bool} : ¬ b2 c = 0 ↔ c = true := by cases c <;> decide
theorem b2_le (c : Bool) : b2 c ≤ 1 := by cases c <;> decide
theorem b2_lt (c : Bool) : b2 c < 2 ^ 31 := by cases c <;> decide
def x_hold (σ : Nat → Nat → Nat) (n q : Nat) : Nat → Nat → Nat := sU σ 2 n (σ 2 n ||| 2 ^ q)
def x_recv (σ : Nat → Nat → Nat) (n q : Nat) : Nat → Nat → Nat := if 0 < σ 8 n then sU σ 8 n (σ 8 n - 1) else x_hold σ n q
def x_reach (σ : Nat → Nat → Nat) (n : Nat) : Nat := rch (fun q => (σ 2 n).testBit q) 48 0
def x_enq (σ : Nat → Nat → Nat) (n m : Nat) : Nat → Nat → Nat := if σ 3 n < 8 then sU (sU σ (20 + n) (σ 3 n) m) 3 n (σ 3 n + 1) else σ
def x_shift (n : Nat) (σ : Nat → Nat → Nat) (k : Nat) : Nat → Nat → Nat := it (fun i s => sU s (20 + n) i (s (20 + n) (i + 1))) σ k
def x_deq (σ : Nat → Nat → Nat) (n : Nat) : Nat → Nat → Nat := sU (x_shift n σ (σ 3 n - 1)) 3 n (σ 3 n - 1)
def x_app (σ : Nat → Nat → Nat) (n e : Nat) : Nat → Nat → Nat := if σ 4 n < 48 then sU (sU σ (30 + n) (σ 4 n) e) 4 n (σ 4 n + 1) else σ
def x_untok (σ : Nat → Nat → Nat) (n : Nat) : Nat → Nat → Nat := match σ 1 n with
  | 0 => σ
  | r + 1 => if σ 12 r = n + 1 then sU σ 12 r 0 else σ
def x_leave (σ : Nat → Nat → Nat) (n : Nat) : Nat → Nat → Nat := sU (sU (sU (sU (sU (x_untok σ n) 1 n 0) 2 n 0) 6 n 0) 7 n 0) 9 n 0
def x_enter (σ : Nat → Nat → Nat) (n r : Nat) : Nat → Nat → Nat := sU (x_leave σ n) 1 n (r + 1)
def x_down (σ : Nat → Nat → Nat) (n : Nat) : Nat → Nat → Nat := sU (sU (x_leave σ n) 3 n 0) 8 n 0
/-- the next member behind a node, itself if there is none -/
def x_af (mem n : Nat) : Nat → Nat → Nat
  | 0, _ => n
  | j + 1, i => if mem.testBit ((n + (i + 1)) % 5) = true then (n + (i + 1)) % 5 else x_af mem n j (i + 1)
def x_after (mem n : Nat) : Nat := x_af mem n 4 0
def x_zero (r : Nat) (σ : Nat → Nat → Nat) (k : Nat) : Nat → Nat → Nat := it (fun n s => sU s (50 + r) n 0) σ k
def x_ring (σ : Nat → Nat → Nat) (r num mem : Nat) : Nat → Nat → Nat := x_zero r (sU (sU (sU (sU (sU σ 10 r num) 11 r mem) 12 r (x_after mem 4 + 1)) 13 r 0) 14 r 0) 5
def x_offreq (σ : Nat → Nat → Nat) (r q : Nat) : Nat → Nat → Nat := sU σ 14 r (σ 14 r ^^^ (σ 14 r &&& 2 ^ q))
def x_mk (r n : Nat) (σ : Nat → Nat → Nat) (k : Nat) : Nat → Nat → Nat := it (fun i s => if (s 2 n).testBit (i + 1) = true then s else sU s 14 r (s 14 r ||| 2 ^ (i + 1))) σ k
def x_mark (σ : Nat → Nat → Nat) (r n : Nat) : Nat → Nat → Nat := x_mk r n (sU σ (50 + r) n (x_reach σ n)) (σ 13 r)
def x_ls (σ : Nat → Nat → Nat) (r : Nat) (k : Nat) : Nat := it (fun k a => if (σ 11 r).testBit k = true then min a (σ (50 + r) k) else a) 48 k
def x_least (σ : Nat → Nat → Nat) (r : Nat) : Nat := x_ls σ r 5
def x_hear (σ : Nat → Nat → Nat) (n k : Nat) : Bool := decide (σ 1 n ≠ 0 ∧ σ 1 n = σ 1 k ∧ σ 5 n = σ 5 k)
def x_take (σ : Nat → Nat → Nat) (n s : Nat) : Nat → Nat → Nat := sU (sU (sU σ 15 0 (σ 15 0 + 1)) 60 (σ 15 0 + 1) n) 61 (σ 15 0 + 1) s
end PURE
end
section
/-! 10.bound: how large the numbers of the class's state are -/
section BOUND
def Bx (f : Nat) : Nat := match f with
  | 0 => 600
  | 1 => 7
  | 2 => 2 ^ 49
  | 3 => 9
  | 4 => 49
  | 5 => 3
  | 6 => 49
  | 7 => 49
  | 8 => 21
  | 9 => 5
  | 10 => 600
  | 11 => 32
  | 12 => 6
  | 13 => 49
  | 14 => 2 ^ 49
  | 15 => 49
  | 60 => 5
  | 61 => 2
  | 62 => 2 ^ 17
  | k => if k < 30 then 49 else if k < 40 then 98 else 49
def bX (σ : Nat → Nat → Nat) : Prop := ∀ f i, σ f i < Bx f
theorem sU_app {σ : Nat → Nat → Nat} {f i v g j : Nat} : sU σ f i v g j = if g = f ∧ j = i then v else σ g j := rfl
theorem bX_sU {σ : Nat → Nat → Nat} {f i v : Nat} (h : bX σ) (hv : v < Bx f) : bX (sU σ f i v) := by
  intro g j
  rw [sU_app]
  split
  · rename_i q
    rw [q.1]
    exact hv
  · exact h g j
theorem bX_it {f : Nat → (Nat → Nat → Nat) → (Nat → Nat → Nat)} {σ : Nat → Nat → Nat} {N : Nat} (h : bX σ) (hs : ∀ k s, k < N → bX s → bX (f k s)) : ∀ k, k ≤ N → bX (it f σ k)
  | 0, _ => h
  | k + 1, hk => hs k _ (by omega) (bX_it h hs k (by omega))
theorem Bx_q {n : Nat} (hn : n < 5) : Bx (20 + n) = 49 := by
  rcases (show n = 0 ∨ n = 1 ∨ n = 2 ∨ n = 3 ∨ n = 4 by omega) with rfl | rfl | rfl | rfl | rfl <;> rfl
theorem Bx_e {n : Nat} (hn : n < 5) : Bx (30 + n) = 98 := by
  rcases (show n = 0 ∨ n = 1 ∨ n = 2 ∨ n = 3 ∨ n = 4 by omega) with rfl | rfl | rfl | rfl | rfl <;> rfl
theorem Bx_a {r : Nat} (hr : r < 6) : Bx (40 + r) = 49 := by
  rcases (show r = 0 ∨ r = 1 ∨ r = 2 ∨ r = 3 ∨ r = 4 ∨ r = 5 by omega) with rfl | rfl | rfl | rfl | rfl | rfl <;> rfl
theorem Bx_k {r : Nat} (hr : r < 6) : Bx (50 + r) = 49 := by
  rcases (show r = 0 ∨ r = 1 ∨ r = 2 ∨ r = 3 ∨ r = 4 ∨ r = 5 by omega) with rfl | rfl | rfl | rfl | rfl | rfl <;> rfl
theorem or_pow_lt {a q : Nat} (ha : a < 2 ^ 49) (hq : q < 49) : a ||| 2 ^ q < 2 ^ 49 := Nat.or_lt_two_pow ha (Nat.pow_lt_pow_right (by decide) hq)
theorem bX_hold {σ : Nat → Nat → Nat} {n q : Nat} (h : bX σ) (hq : q < 49) : bX (x_hold σ n q) := bX_sU h (or_pow_lt (h 2 n) hq)
theorem bX_recv {σ : Nat → Nat → Nat} {n q : Nat} (h : bX σ) (hq : q < 49) : bX (x_recv σ n q) := by
  unfold x_recv
  split
  · exact bX_sU h (Nat.lt_of_le_of_lt (Nat.sub_le _ _) (h 8 n))
  · exact bX_hold h hq
theorem rch_le (h : Nat → Bool) : ∀ (k a : Nat), rch h k a ≤ a + k
  | 0, a => Nat.le_refl _
  | k + 1, a => by
    unfold rch
    split
    · have := rch_le h k (a + 1)
      omega
    · omega
theorem x_reach_le {σ : Nat → Nat → Nat} {n : Nat} : x_reach σ n ≤ 48 := by
  have := rch_le (fun q => (σ 2 n).testBit q) 48 0
  unfold x_reach
  omega
end BOUND
end
section
/-! 11.node: what the methods of Node do -/
section NODE
variable {l : Launch} {D : va_G} {ty : Nat → ClassId} {base b : Nat} {σ : Nat → Nat → Nat} {ρ ξ : List va_E}
set_option maxRecDepth 100000 in
set_option maxHeartbeats 4000000 in
theorem k_N_isUp {post : Int32 → List va_E → Prop} {n : Nat} (hn : n < 5) (k : post (nI (b2 (decide (σ 1 n ≠ 0)))) (memX σ ++ ρ)) : pv_M l D ty base b 0 0 0 (fun _ => True) y_N_isUp c_N_isUp 1 (some .boolean) [.ref (pN n + 1)] (memX σ ++ ρ) (pv_QI D ty base b post) := by
  refine pv_enter [some (.ref (pN n + 1))] (by decide) (fun _ => rfl) (fun _ => Nat.le_of_ble_eq_true rfl) ?_
  refine pv_aload_n d_N_isUp_0 rfl rfl ?_
  refine gN_ring d_N_isUp_1 ff_N_22 (by first | assumption | omega) ?_
  refine pv_ifnullX 11 (by decide) d_N_isUp_4 (fun hnull => ?_) (fun rr hring => ?_)
  · refine pv_iconst d_N_isUp_11 (nI 0) (by decide) ?_
    refine pv_zret d_N_isUp_12 (by first | rfl | decide) ?_
    first | (simpa [b2, hnull] using k) | (simpa [b2, hring] using k)
  · refine pv_iconst d_N_isUp_7 (nI 1) (by decide) ?_
    refine pv_goto 12 (by decide) d_N_isUp_8 ?_
    refine pv_zret d_N_isUp_12 (by first | rfl | decide) ?_
    first | (simpa [b2, hnull] using k) | (simpa [b2, hring] using k)

set_option maxRecDepth 100000 in
set_option maxHeartbeats 4000000 in
theorem k_N_holds {post : Int32 → List va_E → Prop} {n q : Nat} (hn : n < 5) (hb : bX σ) (hq : q < 49) (k : post (nI (b2 ((σ 2 n).testBit q))) (memX σ ++ ρ)) : pv_M l D ty base b 0 0 0 (fun _ => True) y_N_holds c_N_holds 2 (some .boolean) [.ref (pN n + 1), .int (nI q)] (memX σ ++ ρ) (pv_QI D ty base b post) := by
  refine pv_enter [some (.ref (pN n + 1)), some (.int (nI q))] (by decide) (fun _ => rfl) (fun _ => Nat.le_of_ble_eq_true rfl) ?_
  have hb2 : σ 2 n < 2 ^ 49 := hb 2 n
  refine pv_aload_n d_N_holds_0 rfl rfl ?_
  refine gN_held d_N_holds_1 ff_N_26 (by first | assumption | omega) ?_
  refine pv_lconst d_N_holds_4 (lN 1) (by decide) ?_
  refine pv_iload_n d_N_holds_5 rfl rfl ?_
  refine pv_lshl1 d_N_holds_6 (by first | assumption | omega) ?_
  first | refine pv_landN d_N_holds_7 ?_ | refine pv_landC d_N_holds_7 ?_
  refine pv_lconst d_N_holds_8 (lN 0) (by decide) ?_
  refine pv_lcmp_eq 17 d_N_holds_9 d_N_holds_10 (by decide) (by first | omega | exact Nat.lt_of_le_of_lt Nat.and_le_left (by first | assumption | omega) | exact Nat.lt_of_le_of_lt Nat.and_le_right (by decide)) (by first | omega | exact Nat.lt_of_le_of_lt Nat.and_le_left (by first | assumption | omega) | exact Nat.lt_of_le_of_lt Nat.and_le_right (by decide)) (fun h10 => ?_) (fun h10 => ?_)
  · refine pv_iconst d_N_holds_17 (nI 0) (by decide) ?_
    refine pv_zret d_N_holds_18 (by first | rfl | decide) ?_
    first | (have h9 := tb_and.mp h10; simpa [b2, h9] using k) | (have h9 := mt tb_and.mpr h10; simp only [Bool.not_eq_false] at h9; simpa [b2, h9] using k)
  · refine pv_iconst d_N_holds_13 (nI 1) (by decide) ?_
    refine pv_goto 18 (by decide) d_N_holds_14 ?_
    refine pv_zret d_N_holds_18 (by first | rfl | decide) ?_
    first | (have h9 := tb_and.mp h10; simpa [b2, h9] using k) | (have h9 := mt tb_and.mpr h10; simp only [Bool.not_eq_false] at h9; simpa [b2, h9] using k)

set_option maxRecDepth 100000 in
set_option maxHeartbeats 4000000 in
theorem k_N_hold {post : List va_E → Prop} {n q : Nat} (hn : n < 5) (hq : q < 49) (k : post (memX (x_hold σ n q) ++ ρ)) : pv_M l D ty base b 0 0 0 (fun _ => True) y_N_hold c_N_hold 2 none [.ref (pN n + 1), .int (nI q)] (memX σ ++ ρ) (pv_QV D ty base b post) := by
  refine pv_enter [some (.ref (pN n + 1)), some (.int (nI q))] (by decide) (fun _ => rfl) (fun _ => Nat.le_of_ble_eq_true rfl) ?_
  refine pv_aload_n d_N_hold_0 rfl rfl ?_
  refine pv_dup d_N_hold_1 rfl ?_
  refine gN_held d_N_hold_2 ff_N_26 (by first | assumption | omega) ?_
  refine pv_lconst d_N_hold_5 (lN 1) (by decide) ?_
  refine pv_iload_n d_N_hold_6 rfl rfl ?_
  refine pv_lshl1 d_N_hold_7 (by first | assumption | omega) ?_
  refine pv_lorN d_N_hold_8 ?_
  refine pN_held d_N_hold_9 ff_N_26 (by first | assumption | omega) ?_
  refine pv_vret d_N_hold_12 ?_
  exact k

set_option maxRecDepth 100000 in
set_option maxHeartbeats 4000000 in
theorem k_N_receive {post : List va_E → Prop} {n q : Nat} (hn : n < 5) (hb : bX σ) (hq : q < 49) (k : post (memX (x_recv σ n q) ++ ρ)) : pv_M l D ty base b 1 0 0 (fun _ => True) y_N_receive c_N_receive 2 none [.ref (pN n + 1), .int (nI q)] (memX σ ++ ρ) (pv_QV D ty base b post) := by
  refine pv_enter [some (.ref (pN n + 1)), some (.int (nI q))] (by decide) (fun _ => rfl) (fun _ => Nat.le_of_ble_eq_true rfl) ?_
  have hb8 : σ 8 n < 21 := hb 8 n
  refine pv_aload_n d_N_receive_0 rfl rfl ?_
  refine gN_deafness d_N_receive_1 ff_N_30 (by first | assumption | omega) ?_
  first | refine pv_ifN_le 20 (by decide) d_N_receive_4 (by first | assumption | omega) (fun h4 => ?_) (fun h4 => ?_) | refine pv_if_le 20 (by decide) d_N_receive_4 (fun h4 => ?_) (fun h4 => ?_)
  · refine pv_aload_n d_N_receive_20 rfl rfl ?_
    refine pv_iload_n d_N_receive_21 rfl rfl ?_
    refine pv_callV1V d_N_receive_22 (k_N_hold (by first | assumption | omega) (by first | assumption | omega) ?_) sb_N_hold wm_N_33 (gx_N (by first | assumption | omega)) rfl ⟨wi_N_hold, we_N_hold⟩ (by decide) (by decide) (Nat.le_of_ble_eq_true rfl) (by decide) (by decide)
    refine pv_vret d_N_receive_25 ?_
    first | (simpa [x_recv, h4] using k) | (rw [x_recv, if_pos h4] at k; exact k)
  · refine pv_aload_n d_N_receive_7 rfl rfl ?_
    refine pv_dup d_N_receive_8 rfl ?_
    refine gN_deafness d_N_receive_9 ff_N_30 (by first | assumption | omega) ?_
    refine pv_iconst d_N_receive_12 (nI 1) (by decide) ?_
    first | refine pv_isubN d_N_receive_13 (by omega) ?_ | refine pv_isub d_N_receive_13 ?_
    refine pN_deafness d_N_receive_14 ff_N_30 (by first | assumption | omega) ?_
    refine pv_goto 25 (by decide) d_N_receive_17 ?_
    refine pv_vret d_N_receive_25 ?_
    first | (simpa [x_recv, h4] using k) | (rw [x_recv, if_pos h4] at k; exact k)

set_option maxRecDepth 100000 in
set_option maxHeartbeats 4000000 in
theorem k_N_heldWithoutGap {post : Int32 → List va_E → Prop} {n : Nat} (hn : n < 5) (hb : bX σ) (k : post (nI (x_reach σ n)) (memX σ ++ ρ)) : pv_M l D ty base b 1 0 0 (fun _ => True) y_N_heldWithoutGap c_N_heldWithoutGap 2 (some .int) [.ref (pN n + 1)] (memX σ ++ ρ) (pv_QI D ty base b post) := by
  refine pv_enter [some (.ref (pN n + 1)), none] (by decide) (fun _ => rfl) (fun _ => Nat.le_of_ble_eq_true rfl) ?_
  have loop : ∀ (j i : Nat), i + j = 48 → post (nI (rch (fun q => (σ 2 n).testBit q) j i)) (memX σ ++ ρ) → pv_V l D ty base b c_N_heldWithoutGap 2 y_N_heldWithoutGap.cls (some .int) y_N_heldWithoutGap.name (pv_rm 1 0 0) (fun _ => True) (pv_Qf base 0 0 (pv_QI D ty base b post)) 0 0 2 [some (.ref (pN n + 1)), some (.int (nI i))] [] (memX σ ++ ρ) := by
    intro j
    induction j with
    | zero =>
      intro i hi k
      refine pv_iload_n d_N_heldWithoutGap_2 rfl rfl ?_
      refine pv_bipush d_N_heldWithoutGap_3 (nI 48) (by decide) ?_
      first | refine pv_icmpN_ge 24 (by decide) d_N_heldWithoutGap_5 (by first | assumption | omega) (by first | assumption | omega) (fun h5 => ?_) (fun h5 => ?_) | refine pv_icmp_ge 24 (by decide) d_N_heldWithoutGap_5 (fun h5 => ?_) (fun h5 => ?_)
      · refine pv_iload_n d_N_heldWithoutGap_24 rfl rfl ?_
        refine pv_iret d_N_heldWithoutGap_25 ?_
        exact k
      · omega
    | succ j ih =>
      intro i hi k
      unfold rch at k
      refine pv_iload_n d_N_heldWithoutGap_2 rfl rfl ?_
      refine pv_bipush d_N_heldWithoutGap_3 (nI 48) (by decide) ?_
      first | refine pv_icmpN_ge 24 (by decide) d_N_heldWithoutGap_5 (by first | assumption | omega) (by first | assumption | omega) (fun h5 => ?_) (fun h5 => ?_) | refine pv_icmp_ge 24 (by decide) d_N_heldWithoutGap_5 (fun h5 => ?_) (fun h5 => ?_)
      · refine pv_iload_n d_N_heldWithoutGap_24 rfl rfl ?_
        refine pv_iret d_N_heldWithoutGap_25 ?_
        first | omega | (have hc := b2_0.mp h15; simpa [hc] using k)
      · refine pv_aload_n d_N_heldWithoutGap_8 rfl rfl ?_
        refine pv_iload_n d_N_heldWithoutGap_9 rfl rfl ?_
        refine pv_iconst d_N_heldWithoutGap_10 (nI 1) (by decide) ?_
        first | refine pv_iaddN d_N_heldWithoutGap_11 ?_ | refine pv_iadd d_N_heldWithoutGap_11 ?_
        refine pv_callV1I d_N_heldWithoutGap_12 (k_N_holds (by first | assumption | omega) hb (by first | assumption | omega) ?_) sb_N_holds wm_N_37 (gx_N (by first | assumption | omega)) rfl ⟨wi_N_holds, we_N_holds⟩ (by decide) (by decide) (Nat.le_of_ble_eq_true rfl) (by decide) (by decide)
        have hbb := b2_lt ((σ 2 n).testBit (i + 1))
        first | refine pv_ifN_eq 24 (by decide) d_N_heldWithoutGap_15 (by first | assumption | omega) (fun h15 => ?_) (fun h15 => ?_) | refine pv_if_eq 24 (by decide) d_N_heldWithoutGap_15 (fun h15 => ?_) (fun h15 => ?_)
        · refine pv_iload_n d_N_heldWithoutGap_24 rfl rfl ?_
          refine pv_iret d_N_heldWithoutGap_25 ?_
          first | omega | (have hc := b2_0.mp h15; simpa [hc] using k)
        · refine pv_inc1 d_N_heldWithoutGap_18 rfl (by decide) ?_
          refine pv_goto 2 (by decide) d_N_heldWithoutGap_21 ?_
          have hc := b2_n0.mp h15
          exact ih (i + 1) (by omega) (by simpa [hc] using k)
  refine pv_iconst d_N_heldWithoutGap_0 (nI 0) (by decide) ?_
  refine pv_ist1 d_N_heldWithoutGap_1 rfl (by decide) ?_
  exact loop 48 0 rfl k

set_option maxRecDepth 100000 in
set_option maxHeartbeats 4000000 in
theorem k_N_enqueue {post : List va_E → Prop} {n m : Nat} (hn : n < 5) (hb : bX σ) (k : post (memX (x_enq σ n m) ++ ρ)) : pv_M l D ty base b 0 0 0 (fun _ => True) y_N_enqueue c_N_enqueue 2 none [.ref (pN n + 1), .int (nI m)] (memX σ ++ ρ) (pv_QV D ty base b post) := by
  refine pv_enter [some (.ref (pN n + 1)), some (.int (nI m))] (by decide) (fun _ => rfl) (fun _ => Nat.le_of_ble_eq_true rfl) ?_
  have hb3 : σ 3 n < 9 := hb 3 n
  refine pv_aload_n d_N_enqueue_0 rfl rfl ?_
  refine gN_queued d_N_enqueue_1 ff_N_41 (by first | assumption | omega) ?_
  refine pv_bipush d_N_enqueue_4 (nI 8) (by decide) ?_
  first | refine pv_icmpN_ge 29 (by decide) d_N_enqueue_6 (by first | assumption | omega) (by first | assumption | omega) (fun h6 => ?_) (fun h6 => ?_) | refine pv_icmp_ge 29 (by decide) d_N_enqueue_6 (fun h6 => ?_) (fun h6 => ?_)
  · refine pv_vret d_N_enqueue_29 ?_
    first | (rw [x_enq, if_pos h6] at k; exact k) | (rw [x_enq, if_neg (by omega)] at k; exact k)
  · refine pv_aload_n d_N_enqueue_9 rfl rfl ?_
    refine gN_queue d_N_enqueue_10 ff_N_15 (by first | assumption | omega) ?_
    refine pv_aload_n d_N_enqueue_13 rfl rfl ?_
    refine gN_queued d_N_enqueue_14 ff_N_41 (by first | assumption | omega) ?_
    refine pv_iload_n d_N_enqueue_17 rfl rfl ?_
    refine s_queue d_N_enqueue_18 (by first | assumption | omega) (by first | assumption | omega) ?_
    refine pv_aload_n d_N_enqueue_19 rfl rfl ?_
    refine pv_dup d_N_enqueue_20 rfl ?_
    refine gN_queued d_N_enqueue_21 ff_N_41 (by first | assumption | omega) ?_
    rw [sU_nef (show (3 : Nat) ≠ 20 + n by omega)]
    refine pv_iconst d_N_enqueue_24 (nI 1) (by decide) ?_
    first | refine pv_iaddN d_N_enqueue_25 ?_ | refine pv_iadd d_N_enqueue_25 ?_
    refine pN_queued d_N_enqueue_26 ff_N_41 (by first | assumption | omega) ?_
    refine pv_vret d_N_enqueue_29 ?_
    first | (rw [x_enq, if_pos h6] at k; exact k) | (rw [x_enq, if_neg (by omega)] at k; exact k)

set_option maxRecDepth 100000 in
set_option maxHeartbeats 4000000 in
theorem k_N_append {post : List va_E → Prop} {n m : Nat} (hn : n < 5) (hb : bX σ) (k : post (memX (x_app σ n m) ++ ρ)) : pv_M l D ty base b 0 0 0 (fun _ => True) y_N_append c_N_append 2 none [.ref (pN n + 1), .int (nI m)] (memX σ ++ ρ) (pv_QV D ty base b post) := by
  refine pv_enter [some (.ref (pN n + 1)), some (.int (nI m))] (by decide) (fun _ => rfl) (fun _ => Nat.le_of_ble_eq_true rfl) ?_
  have hb4 : σ 4 n < 49 := hb 4 n
  refine pv_aload_n d_N_append_0 rfl rfl ?_
  refine gN_logged d_N_append_1 ff_N_50 (by first | assumption | omega) ?_
  refine pv_bipush d_N_append_4 (nI 48) (by decide) ?_
  first | refine pv_icmpN_ge 29 (by decide) d_N_append_6 (by first | assumption | omega) (by first | assumption | omega) (fun h6 => ?_) (fun h6 => ?_) | refine pv_icmp_ge 29 (by decide) d_N_append_6 (fun h6 => ?_) (fun h6 => ?_)
  · refine pv_vret d_N_append_29 ?_
    first | (rw [x_app, if_pos h6] at k; exact k) | (rw [x_app, if_neg (by omega)] at k; exact k)
  · refine pv_aload_n d_N_append_9 rfl rfl ?_
    refine gN_entries d_N_append_10 ff_N_19 (by first | assumption | omega) ?_
    refine pv_aload_n d_N_append_13 rfl rfl ?_
    refine gN_logged d_N_append_14 ff_N_50 (by first | assumption | omega) ?_
    refine pv_iload_n d_N_append_17 rfl rfl ?_
    refine s_entries d_N_append_18 (by first | assumption | omega) (by first | assumption | omega) ?_
    refine pv_aload_n d_N_append_19 rfl rfl ?_
    refine pv_dup d_N_append_20 rfl ?_
    refine gN_logged d_N_append_21 ff_N_50 (by first | assumption | omega) ?_
    rw [sU_nef (show (4 : Nat) ≠ 30 + n by omega)]
    refine pv_iconst d_N_append_24 (nI 1) (by decide) ?_
    first | refine pv_iaddN d_N_append_25 ?_ | refine pv_iadd d_N_append_25 ?_
    refine pN_logged d_N_append_26 ff_N_50 (by first | assumption | omega) ?_
    refine pv_vret d_N_append_29 ?_
    first | (rw [x_app, if_pos h6] at k; exact k) | (rw [x_app, if_neg (by omega)] at k; exact k)

theorem x_shift_ne {σ : Nat → Nat → Nat} {n f j : Nat} (h : f ≠ 20 + n) : ∀ k, x_shift n σ k f j = σ f j
  | 0 => rfl
  | k + 1 => by
    show sU (x_shift n σ k) (20 + n) k _ f j = _
    rw [sU_nef h, x_shift_ne h k]
set_option maxRecDepth 100000 in
set_option maxHeartbeats 4000000 in
theorem k_N_dequeue {post : Int32 → List va_E → Prop} {n : Nat} (hn : n < 5) (hb : bX σ) (h3 : 0 < σ 3 n) (k : post (nI (σ (20 + n) 0)) (memX (x_deq σ n) ++ ρ)) : pv_M l D ty base b 1 0 0 (fun _ => True) y_N_dequeue c_N_dequeue 3 (some .int) [.ref (pN n + 1)] (memX σ ++ ρ) (pv_QI D ty base b post) := by
  refine pv_enter [some (.ref (pN n + 1)), none, none] (by decide) (fun _ => rfl) (fun _ => Nat.le_of_ble_eq_true rfl) ?_
  have hb3 : σ 3 n < 9 := hb 3 n
  have xs3 : ∀ i, x_shift n σ i 3 n = σ 3 n := x_shift_ne (by omega)
  have loop : ∀ (j i : Nat), i + j = σ 3 n - 1 → pv_V l D ty base b c_N_dequeue 3 y_N_dequeue.cls (some .int) y_N_dequeue.name (pv_rm 1 0 0) (fun _ => True) (pv_Qf base 0 0 (pv_QI D ty base b post)) 0 0 9 [some (.ref (pN n + 1)), some (.int (nI (σ (20 + n) 0))), some (.int (nI (i + 1)))] [] (memX (x_shift n σ i) ++ ρ) := by
    intro j
    induction j with
    | zero =>
      intro i hi
      refine pv_iload_n d_N_dequeue_9 rfl rfl ?_
      refine pv_aload_n d_N_dequeue_10 rfl rfl ?_
      refine gN_queued d_N_dequeue_11 ff_N_41 (by first | assumption | omega) ?_
      rw [xs3]
      first | refine pv_icmpN_ge 37 (by decide) d_N_dequeue_14 (by first | assumption | omega) (by first | assumption | omega) (fun h14 => ?_) (fun h14 => ?_) | refine pv_icmp_ge 37 (by decide) d_N_dequeue_14 (fun h14 => ?_) (fun h14 => ?_)
      · refine pv_aload_n d_N_dequeue_37 rfl rfl ?_
        refine pv_iconst d_N_dequeue_38 (nI 0) (by decide) ?_
        refine pv_aload_n d_N_dequeue_39 rfl rfl ?_
        refine gN_queued d_N_dequeue_40 ff_N_41 (by first | assumption | omega) ?_
        rw [xs3]
        refine pv_iconst d_N_dequeue_43 (nI 1) (by decide) ?_
        first | refine pv_isubN d_N_dequeue_44 (by omega) ?_ | refine pv_isub d_N_dequeue_44 ?_
        refine pv_mmaxN d_N_dequeue_45 wm_N_44 ws_max wn_Math wc_max (by decide) (by decide) (Nat.le_of_ble_eq_true rfl) (by decide) (by decide) (by first | assumption | omega) (by first | assumption | omega) ?_
        refine pN_queued d_N_dequeue_48 ff_N_41 (by first | assumption | omega) ?_
        refine pv_iload_n d_N_dequeue_51 rfl rfl ?_
        refine pv_iret d_N_dequeue_52 ?_
        rw [Nat.zero_max]
        obtain rfl : i = σ 3 n - 1 := by omega
        exact k
      · omega
    | succ j ih =>
      intro i hi
      refine pv_iload_n d_N_dequeue_9 rfl rfl ?_
      refine pv_aload_n d_N_dequeue_10 rfl rfl ?_
      refine gN_queued d_N_dequeue_11 ff_N_41 (by first | assumption | omega) ?_
      rw [xs3]
      first | refine pv_icmpN_ge 37 (by decide) d_N_dequeue_14 (by first | assumption | omega) (by first | assumption | omega) (fun h14 => ?_) (fun h14 => ?_) | refine pv_icmp_ge 37 (by decide) d_N_dequeue_14 (fun h14 => ?_) (fun h14 => ?_)
      · omega
      · refine pv_aload_n d_N_dequeue_17 rfl rfl ?_
        refine gN_queue d_N_dequeue_18 ff_N_15 (by first | assumption | omega) ?_
        refine pv_iload_n d_N_dequeue_21 rfl rfl ?_
        refine pv_iconst d_N_dequeue_22 (nI 1) (by decide) ?_
        first | refine pv_isubN d_N_dequeue_23 (by omega) ?_ | refine pv_isub d_N_dequeue_23 ?_
        refine pv_aload_n d_N_dequeue_24 rfl rfl ?_
        refine gN_queue d_N_dequeue_25 ff_N_15 (by first | assumption | omega) ?_
        refine pv_iload_n d_N_dequeue_28 rfl rfl ?_
        refine l_queue d_N_dequeue_29 (by first | assumption | omega) (by first | assumption | omega) ?_
        refine s_queue d_N_dequeue_30 (by first | assumption | omega) (by first | assumption | omega) ?_
        refine pv_inc2 d_N_dequeue_31 rfl (by decide) ?_
        refine pv_goto 9 (by decide) d_N_dequeue_34 ?_
        exact ih (i + 1) (by omega)
  refine pv_aload_n d_N_dequeue_0 rfl rfl ?_
  refine gN_queue d_N_dequeue_1 ff_N_15 (by first | assumption | omega) ?_
  refine pv_iconst d_N_dequeue_4 (nI 0) (by decide) ?_
  refine l_queue d_N_dequeue_5 (by first | assumption | omega) (by first | assumption | omega) ?_
  refine pv_ist1 d_N_dequeue_6 rfl (by decide) ?_
  refine pv_iconst d_N_dequeue_7 (nI 1) (by decide) ?_
  refine pv_ist2 d_N_dequeue_8 rfl (by decide) ?_
  exact loop (σ 3 n - 1) 0 (by omega)

set_option maxRecDepth 100000 in
set_option maxHeartbeats 4000000 in
theorem k_N_leaveRing {post : List va_E → Prop} {n : Nat} (hn : n < 5) (hb : bX σ) (k : post (memX (x_leave σ n) ++ ρ)) : pv_M l D ty base b 0 0 0 (fun _ => True) y_N_leaveRing c_N_leaveRing 1 none [.ref (pN n + 1)] (memX σ ++ ρ) (pv_QV D ty base b post) := by
  refine pv_enter [some (.ref (pN n + 1))] (by decide) (fun _ => rfl) (fun _ => Nat.le_of_ble_eq_true rfl) ?_
  have hb1 : σ 1 n < 7 := hb 1 n
  have hb12 : ∀ i, σ 12 i < 6 := hb 12
  refine pv_aload_n d_N_leaveRing_0 rfl rfl ?_
  refine gN_ring d_N_leaveRing_1 ff_N_22 (by first | assumption | omega) ?_
  refine pv_ifnullX 29 (by decide) d_N_leaveRing_4 (fun hnull => ?_) (fun rr hring => ?_)
  · refine pv_aload_n d_N_leaveRing_29 rfl rfl ?_
    refine pv_null d_N_leaveRing_30 ?_
    refine pN_ring0 d_N_leaveRing_31 ff_N_22 (by first | assumption | omega) ?_
    refine pv_aload_n d_N_leaveRing_34 rfl rfl ?_
    refine pv_lconst d_N_leaveRing_35 (lN 0) (by decide) ?_
    refine pN_held d_N_leaveRing_36 ff_N_26 (by first | assumption | omega) ?_
    refine pv_aload_n d_N_leaveRing_39 rfl rfl ?_
    refine pv_iconst d_N_leaveRing_40 (nI 0) (by decide) ?_
    refine pN_line d_N_leaveRing_41 ff_N_61 (by first | assumption | omega) ?_
    refine pv_aload_n d_N_leaveRing_44 rfl rfl ?_
    refine pv_iconst d_N_leaveRing_45 (nI 0) (by decide) ?_
    refine pN_place d_N_leaveRing_46 ff_N_64 (by first | assumption | omega) ?_
    refine pv_aload_n d_N_leaveRing_49 rfl rfl ?_
    refine pv_iconst d_N_leaveRing_50 (nI 0) (by decide) ?_
    refine pN_timer d_N_leaveRing_51 ff_N_67 (by first | assumption | omega) ?_
    refine pv_vret d_N_leaveRing_54 ?_
    first | (simp only [x_leave, x_untok, hnull] at k; exact k) | (have h9 := mt (tk_eq (Nat.lt_of_lt_of_le (hb12 rr) (by decide)) (by omega)).mpr h18; simp only [x_leave, x_untok, hring, if_neg h9] at k; exact k) | (have h9 := (tk_eq (Nat.lt_of_lt_of_le (hb12 rr) (by decide)) (by omega)).mp h18; simp only [x_leave, x_untok, hring, if_pos h9] at k; exact k)
  · refine pv_aload_n d_N_leaveRing_7 rfl rfl ?_
    refine gN_ring d_N_leaveRing_8 ff_N_22 (by first | assumption | omega) ?_
    first | refine pv_known (by assumption) ?_ | refine pv_splitX (fun hnull => by omega) (fun rr hring => ?_)
    refine gR_tokenAt d_N_leaveRing_11 ff_N_56 (by first | assumption | omega) ?_
    refine pv_aload_n d_N_leaveRing_14 rfl rfl ?_
    refine gN_number d_N_leaveRing_15 ff_N_9 (by first | assumption | omega) ?_
    first | refine pv_icmpN_ne 29 (by decide) d_N_leaveRing_18 (by first | assumption | omega) (by first | assumption | omega) (fun h18 => ?_) (fun h18 => ?_) | refine pv_icmp_ne 29 (by decide) d_N_leaveRing_18 (fun h18 => ?_) (fun h18 => ?_)
    · refine pv_aload_n d_N_leaveRing_29 rfl rfl ?_
      refine pv_null d_N_leaveRing_30 ?_
      refine pN_ring0 d_N_leaveRing_31 ff_N_22 (by first | assumption | omega) ?_
      refine pv_aload_n d_N_leaveRing_34 rfl rfl ?_
      refine pv_lconst d_N_leaveRing_35 (lN 0) (by decide) ?_
      refine pN_held d_N_leaveRing_36 ff_N_26 (by first | assumption | omega) ?_
      refine pv_aload_n d_N_leaveRing_39 rfl rfl ?_
      refine pv_iconst d_N_leaveRing_40 (nI 0) (by decide) ?_
      refine pN_line d_N_leaveRing_41 ff_N_61 (by first | assumption | omega) ?_
      refine pv_aload_n d_N_leaveRing_44 rfl rfl ?_
      refine pv_iconst d_N_leaveRing_45 (nI 0) (by decide) ?_
      refine pN_place d_N_leaveRing_46 ff_N_64 (by first | assumption | omega) ?_
      refine pv_aload_n d_N_leaveRing_49 rfl rfl ?_
      refine pv_iconst d_N_leaveRing_50 (nI 0) (by decide) ?_
      refine pN_timer d_N_leaveRing_51 ff_N_67 (by first | assumption | omega) ?_
      refine pv_vret d_N_leaveRing_54 ?_
      first | (simp only [x_leave, x_untok, hnull] at k; exact k) | (have h9 := mt (tk_eq (Nat.lt_of_lt_of_le (hb12 rr) (by decide)) (by omega)).mpr h18; simp only [x_leave, x_untok, hring, if_neg h9] at k; exact k) | (have h9 := (tk_eq (Nat.lt_of_lt_of_le (hb12 rr) (by decide)) (by omega)).mp h18; simp only [x_leave, x_untok, hring, if_pos h9] at k; exact k)
    · refine pv_aload_n d_N_leaveRing_21 rfl rfl ?_
      refine gN_ring d_N_leaveRing_22 ff_N_22 (by first | assumption | omega) ?_
      first | refine pv_known (by assumption) ?_ | refine pv_splitX (fun hnull => by omega) (fun rr hring => ?_)
      refine pv_iconst d_N_leaveRing_25 (-1) (by decide) ?_
      refine pR_tokenAtM d_N_leaveRing_26 ff_N_56 (by first | assumption | omega) ?_
      refine pv_aload_n d_N_leaveRing_29 rfl rfl ?_
      refine pv_null d_N_leaveRing_30 ?_
      refine pN_ring0 d_N_leaveRing_31 ff_N_22 (by first | assumption | omega) ?_
      refine pv_aload_n d_N_leaveRing_34 rfl rfl ?_
      refine pv_lconst d_N_leaveRing_35 (lN 0) (by decide) ?_
      refine pN_held d_N_leaveRing_36 ff_N_26 (by first | assumption | omega) ?_
      refine pv_aload_n d_N_leaveRing_39 rfl rfl ?_
      refine pv_iconst d_N_leaveRing_40 (nI 0) (by decide) ?_
      refine pN_line d_N_leaveRing_41 ff_N_61 (by first | assumption | omega) ?_
      refine pv_aload_n d_N_leaveRing_44 rfl rfl ?_
      refine pv_iconst d_N_leaveRing_45 (nI 0) (by decide) ?_
      refine pN_place d_N_leaveRing_46 ff_N_64 (by first | assumption | omega) ?_
      refine pv_aload_n d_N_leaveRing_49 rfl rfl ?_
      refine pv_iconst d_N_leaveRing_50 (nI 0) (by decide) ?_
      refine pN_timer d_N_leaveRing_51 ff_N_67 (by first | assumption | omega) ?_
      refine pv_vret d_N_leaveRing_54 ?_
      first | (simp only [x_leave, x_untok, hnull] at k; exact k) | (have h9 := mt (tk_eq (Nat.lt_of_lt_of_le (hb12 rr) (by decide)) (by omega)).mpr h18; simp only [x_leave, x_untok, hring, if_neg h9] at k; exact k) | (have h9 := (tk_eq (Nat.lt_of_lt_of_le (hb12 rr) (by decide)) (by omega)).mp h18; simp only [x_leave, x_untok, hring, if_pos h9] at k; exact k)

theorem bX_untok {σ : Nat → Nat → Nat} {n : Nat} (h : bX σ) : bX (x_untok σ n) := by
  unfold x_untok
  split
  · exact h
  · split
    · exact bX_sU h (by decide)
    · exact h
theorem bX_leave {σ : Nat → Nat → Nat} {n : Nat} (h : bX σ) : bX (x_leave σ n) := bX_sU (bX_sU (bX_sU (bX_sU (bX_sU (bX_untok h) (by decide)) (by decide)) (by decide)) (by decide)) (by decide)
theorem bX_enter {σ : Nat → Nat → Nat} {n r : Nat} (h : bX σ) (hr : r < 6) : bX (x_enter σ n r) := bX_sU (bX_leave h) (show r + 1 < 7 by omega)
theorem bX_down {σ : Nat → Nat → Nat} {n : Nat} (h : bX σ) : bX (x_down σ n) := bX_sU (bX_sU (bX_leave h) (by decide)) (by decide)
set_option maxRecDepth 100000 in
set_option maxHeartbeats 4000000 in
theorem k_N_enter {post : List va_E → Prop} {n r : Nat} (hn : n < 5) (hb : bX σ) (k : post (memX (x_enter σ n r) ++ ρ)) : pv_M l D ty base b 1 0 0 (fun _ => True) y_N_enter c_N_enter 2 none [.ref (pN n + 1), .ref (pR r + 1)] (memX σ ++ ρ) (pv_QV D ty base b post) := by
  refine pv_enter [some (.ref (pN n + 1)), some (.ref (pR r + 1))] (by decide) (fun _ => rfl) (fun _ => Nat.le_of_ble_eq_true rfl) ?_
  refine pv_aload_n d_N_enter_0 rfl rfl ?_
  refine pv_callV0V d_N_enter_1 (k_N_leaveRing (by first | assumption | omega) hb ?_) sb_N_leaveRing wm_N_53 (gx_N (by first | assumption | omega)) rfl ⟨wi_N_leaveRing, we_N_leaveRing⟩ (by decide) (by decide) (Nat.le_of_ble_eq_true rfl) (by decide) (by decide)
  refine pv_aload_n d_N_enter_4 rfl rfl ?_
  refine pv_aload_n d_N_enter_5 rfl rfl ?_
  refine pN_ringr d_N_enter_6 ff_N_22 (by first | assumption | omega) ?_
  refine pv_vret d_N_enter_9 ?_
  exact k

set_option maxRecDepth 100000 in
set_option maxHeartbeats 4000000 in
theorem k_N_goDown {post : List va_E → Prop} {n : Nat} (hn : n < 5) (hb : bX σ) (k : post (memX (x_down σ n) ++ ρ)) : pv_M l D ty base b 1 0 0 (fun _ => True) y_N_goDown c_N_goDown 1 none [.ref (pN n + 1)] (memX σ ++ ρ) (pv_QV D ty base b post) := by
  refine pv_enter [some (.ref (pN n + 1))] (by decide) (fun _ => rfl) (fun _ => Nat.le_of_ble_eq_true rfl) ?_
  refine pv_aload_n d_N_goDown_0 rfl rfl ?_
  refine pv_callV0V d_N_goDown_1 (k_N_leaveRing (by first | assumption | omega) hb ?_) sb_N_leaveRing wm_N_53 (gx_N (by first | assumption | omega)) rfl ⟨wi_N_leaveRing, we_N_leaveRing⟩ (by decide) (by decide) (Nat.le_of_ble_eq_true rfl) (by decide) (by decide)
  refine pv_aload_n d_N_goDown_4 rfl rfl ?_
  refine pv_iconst d_N_goDown_5 (nI 0) (by decide) ?_
  refine pN_queued d_N_goDown_6 ff_N_41 (by first | assumption | omega) ?_
  refine pv_aload_n d_N_goDown_9 rfl rfl ?_
  refine pv_iconst d_N_goDown_10 (nI 0) (by decide) ?_
  refine pN_deafness d_N_goDown_11 ff_N_30 (by first | assumption | omega) ?_
  refine pv_vret d_N_goDown_14 ?_
  exact k

end NODE
end
section
/-! 12.ring: what the methods of Ring, Messages and the static methods do -/
section RING
variable {l : Launch} {D : va_G} {ty : Nat → ClassId} {base b : Nat} {σ : Nat → Nat → Nat} {ρ ξ : List va_E}
variable {M : List va_E}
set_option maxRecDepth 100000 in
set_option maxHeartbeats 4000000 in
theorem k_O_isNode_no {post : Int32 → List va_E → Prop} {x : Int32} (h : x < 0 ∨ nI 5 ≤ x) (k : post (nI 0) M) : pv_M l D ty base b 0 0 0 (fun _ => True) y_O_isNode c_O_isNode 1 (some .boolean) [.int x] (M) (pv_QI D ty base b post) := by
  refine pv_enter [some (.int x)] (by decide) (fun _ => rfl) (fun _ => Nat.le_of_ble_eq_true rfl) ?_
  refine pv_iload_n d_O_isNode_0 rfl rfl ?_
  refine pv_if_lt 13 (by decide) d_O_isNode_1 (fun h1 => ?_) (fun h1 => ?_)
  · refine pv_iconst d_O_isNode_13 (nI 0) (by decide) ?_
    refine pv_zret d_O_isNode_14 (by first | rfl | decide) ?_
    first | exact k | exact absurd h (by intro q; rcases q with q | q <;> contradiction)
  · refine pv_iload_n d_O_isNode_4 rfl rfl ?_
    refine pv_iconst d_O_isNode_5 (nI 5) (by decide) ?_
    first | refine pv_icmpN_ge 13 (by decide) d_O_isNode_6 (by first | assumption | omega) (by first | assumption | omega) (fun h6 => ?_) (fun h6 => ?_) | refine pv_icmp_ge 13 (by decide) d_O_isNode_6 (fun h6 => ?_) (fun h6 => ?_)
    · refine pv_iconst d_O_isNode_13 (nI 0) (by decide) ?_
      refine pv_zret d_O_isNode_14 (by first | rfl | decide) ?_
      first | exact k | exact absurd h (by intro q; rcases q with q | q <;> contradiction)
    · refine pv_iconst d_O_isNode_9 (nI 1) (by decide) ?_
      refine pv_goto 14 (by decide) d_O_isNode_10 ?_
      refine pv_zret d_O_isNode_14 (by first | rfl | decide) ?_
      first | exact k | exact absurd h (by intro q; rcases q with q | q <;> contradiction)

set_option maxRecDepth 100000 in
set_option maxHeartbeats 4000000 in
theorem k_O_isNode {post : Int32 → List va_E → Prop} {n : Nat} (hn : n < 5) (k : post (nI 1) M) : pv_M l D ty base b 0 0 0 (fun _ => True) y_O_isNode c_O_isNode 1 (some .boolean) [.int (nI n)] (M) (pv_QI D ty base b post) := by
  refine pv_enter [some (.int (nI n))] (by decide) (fun _ => rfl) (fun _ => Nat.le_of_ble_eq_true rfl) ?_
  refine pv_iload_n d_O_isNode_0 rfl rfl ?_
  refine pv_if_lt 13 (by decide) d_O_isNode_1 (fun h1 => ?_) (fun h1 => ?_)
  · refine pv_iconst d_O_isNode_13 (nI 0) (by decide) ?_
    refine pv_zret d_O_isNode_14 (by first | rfl | decide) ?_
    first | exact k | exact absurd h1 (nI_pos (by omega)) | omega
  · refine pv_iload_n d_O_isNode_4 rfl rfl ?_
    refine pv_iconst d_O_isNode_5 (nI 5) (by decide) ?_
    first | refine pv_icmpN_ge 13 (by decide) d_O_isNode_6 (by first | assumption | omega) (by first | assumption | omega) (fun h6 => ?_) (fun h6 => ?_) | refine pv_icmp_ge 13 (by decide) d_O_isNode_6 (fun h6 => ?_) (fun h6 => ?_)
    · refine pv_iconst d_O_isNode_13 (nI 0) (by decide) ?_
      refine pv_zret d_O_isNode_14 (by first | rfl | decide) ?_
      first | exact k | exact absurd h1 (nI_pos (by omega)) | omega
    · refine pv_iconst d_O_isNode_9 (nI 1) (by decide) ?_
      refine pv_goto 14 (by decide) d_O_isNode_10 ?_
      refine pv_zret d_O_isNode_14 (by first | rfl | decide) ?_
      first | exact k | exact absurd h1 (nI_pos (by omega)) | omega

set_option maxRecDepth 100000 in
set_option maxHeartbeats 4000000 in
theorem k_O_isIn {post : Int32 → List va_E → Prop} {m n : Nat} (hm : m < 2 ^ 31) (hn : n < 31) (k : post (nI (b2 (m.testBit n))) M) : pv_M l D ty base b 0 0 0 (fun _ => True) y_O_isIn c_O_isIn 2 (some .boolean) [.int (nI m), .int (nI n)] (M) (pv_QI D ty base b post) := by
  refine pv_enter [some (.int (nI m)), some (.int (nI n))] (by decide) (fun _ => rfl) (fun _ => Nat.le_of_ble_eq_true rfl) ?_
  have hbd : m &&& 2 ^ n < 2 ^ 31 := Nat.lt_of_le_of_lt Nat.and_le_left hm
  refine pv_iload_n d_O_isIn_0 rfl rfl ?_
  refine pv_iconst d_O_isIn_1 (nI 1) (by decide) ?_
  refine pv_iload_n d_O_isIn_2 rfl rfl ?_
  first | refine pv_ishl1 d_O_isIn_3 (by omega) ?_ | refine pv_ishl d_O_isIn_3 ?_
  first | refine pv_iandN d_O_isIn_4 ?_ | refine pv_iand d_O_isIn_4 ?_
  first | refine pv_ifN_eq 12 (by decide) d_O_isIn_5 (by first | assumption | omega) (fun h5 => ?_) (fun h5 => ?_) | refine pv_if_eq 12 (by decide) d_O_isIn_5 (fun h5 => ?_) (fun h5 => ?_)
  · refine pv_iconst d_O_isIn_12 (nI 0) (by decide) ?_
    refine pv_zret d_O_isIn_13 (by first | rfl | decide) ?_
    first | (have h9 := tb_and.mp h5; simpa [b2, h9] using k) | (have h9 := mt tb_and.mpr h5; simp only [Bool.not_eq_false] at h9; simpa [b2, h9] using k)
  · refine pv_iconst d_O_isIn_8 (nI 1) (by decide) ?_
    refine pv_goto 13 (by decide) d_O_isIn_9 ?_
    refine pv_zret d_O_isIn_13 (by first | rfl | decide) ?_
    first | (have h9 := tb_and.mp h5; simpa [b2, h9] using k) | (have h9 := mt tb_and.mpr h5; simp only [Bool.not_eq_false] at h9; simpa [b2, h9] using k)

set_option maxRecDepth 100000 in
set_option maxHeartbeats 4000000 in
theorem k_R_isTokenLost {post : Int32 → List va_E → Prop} {r : Nat} (hr : r < 6) (hb : bX σ) (k : post (nI (b2 (decide (σ 12 r = 0)))) (memX σ ++ ρ)) : pv_M l D ty base b 0 0 0 (fun _ => True) y_R_isTokenLost c_R_isTokenLost 1 (some .boolean) [.ref (pR r + 1)] (memX σ ++ ρ) (pv_QI D ty base b post) := by
  refine pv_enter [some (.ref (pR r + 1))] (by decide) (fun _ => rfl) (fun _ => Nat.le_of_ble_eq_true rfl) ?_
  have hb12 : σ 12 r < 6 := hb 12 r
  refine pv_aload_n d_R_isTokenLost_0 rfl rfl ?_
  refine gR_tokenAt d_R_isTokenLost_1 ff_R_18 (by first | assumption | omega) ?_
  refine pv_iconst d_R_isTokenLost_4 (-1) (by decide) ?_
  first | refine pv_icmpN_ne 12 (by decide) d_R_isTokenLost_5 (by first | assumption | omega) (by first | assumption | omega) (fun h5 => ?_) (fun h5 => ?_) | refine pv_icmp_ne 12 (by decide) d_R_isTokenLost_5 (fun h5 => ?_) (fun h5 => ?_)
  · refine pv_iconst d_R_isTokenLost_12 (nI 0) (by decide) ?_
    refine pv_zret d_R_isTokenLost_13 (by first | rfl | decide) ?_
    first | (have h9 := (tk_m1 (by omega)).mp h5; simpa [b2, h9] using k) | (have h9 := mt (tk_m1 (by omega)).mpr h5; simpa [b2, h9] using k)
  · refine pv_iconst d_R_isTokenLost_8 (nI 1) (by decide) ?_
    refine pv_goto 13 (by decide) d_R_isTokenLost_9 ?_
    refine pv_zret d_R_isTokenLost_13 (by first | rfl | decide) ?_
    first | (have h9 := (tk_m1 (by omega)).mp h5; simpa [b2, h9] using k) | (have h9 := mt (tk_m1 (by omega)).mpr h5; simpa [b2, h9] using k)

set_option maxRecDepth 100000 in
set_option maxHeartbeats 4000000 in
theorem k_R_isRequested {post : Int32 → List va_E → Prop} {r q : Nat} (hr : r < 6) (hb : bX σ) (hq : q < 49) (k : post (nI (b2 ((σ 14 r).testBit q))) (memX σ ++ ρ)) : pv_M l D ty base b 0 0 0 (fun _ => True) y_R_isRequested c_R_isRequested 2 (some .boolean) [.ref (pR r + 1), .int (nI q)] (memX σ ++ ρ) (pv_QI D ty base b post) := by
  refine pv_enter [some (.ref (pR r + 1)), some (.int (nI q))] (by decide) (fun _ => rfl) (fun _ => Nat.le_of_ble_eq_true rfl) ?_
  have hb2 : σ 14 r < 2 ^ 49 := hb 14 r
  refine pv_aload_n d_R_isRequested_0 rfl rfl ?_
  refine gR_requests d_R_isRequested_1 ff_R_35 (by first | assumption | omega) ?_
  refine pv_lconst d_R_isRequested_4 (lN 1) (by decide) ?_
  refine pv_iload_n d_R_isRequested_5 rfl rfl ?_
  refine pv_lshl1 d_R_isRequested_6 (by first | assumption | omega) ?_
  first | refine pv_landN d_R_isRequested_7 ?_ | refine pv_landC d_R_isRequested_7 ?_
  refine pv_lconst d_R_isRequested_8 (lN 0) (by decide) ?_
  refine pv_lcmp_eq 17 d_R_isRequested_9 d_R_isRequested_10 (by decide) (by first | omega | exact Nat.lt_of_le_of_lt Nat.and_le_left (by first | assumption | omega) | exact Nat.lt_of_le_of_lt Nat.and_le_right (by decide)) (by first | omega | exact Nat.lt_of_le_of_lt Nat.and_le_left (by first | assumption | omega) | exact Nat.lt_of_le_of_lt Nat.and_le_right (by decide)) (fun h10 => ?_) (fun h10 => ?_)
  · refine pv_iconst d_R_isRequested_17 (nI 0) (by decide) ?_
    refine pv_zret d_R_isRequested_18 (by first | rfl | decide) ?_
    first | (have h9 := tb_and.mp h10; simpa [b2, h9] using k) | (have h9 := mt tb_and.mpr h10; simp only [Bool.not_eq_false] at h9; simpa [b2, h9] using k)
  · refine pv_iconst d_R_isRequested_13 (nI 1) (by decide) ?_
    refine pv_goto 18 (by decide) d_R_isRequested_14 ?_
    refine pv_zret d_R_isRequested_18 (by first | rfl | decide) ?_
    first | (have h9 := tb_and.mp h10; simpa [b2, h9] using k) | (have h9 := mt tb_and.mpr h10; simp only [Bool.not_eq_false] at h9; simpa [b2, h9] using k)

set_option maxRecDepth 100000 in
set_option maxHeartbeats 4000000 in
theorem k_R_takeOffRequest {post : List va_E → Prop} {r q : Nat} (hr : r < 6) (hq : q < 49) (k : post (memX (x_offreq σ r q) ++ ρ)) : pv_M l D ty base b 0 0 0 (fun _ => True) y_R_takeOffRequest c_R_takeOffRequest 2 none [.ref (pR r + 1), .int (nI q)] (memX σ ++ ρ) (pv_QV D ty base b post) := by
  refine pv_enter [some (.ref (pR r + 1)), some (.int (nI q))] (by decide) (fun _ => rfl) (fun _ => Nat.le_of_ble_eq_true rfl) ?_
  refine pv_aload_n d_R_takeOffRequest_0 rfl rfl ?_
  refine pv_dup d_R_takeOffRequest_1 rfl ?_
  refine gR_requests d_R_takeOffRequest_2 ff_R_35 (by first | assumption | omega) ?_
  refine pv_lconst d_R_takeOffRequest_5 (lN 1) (by decide) ?_
  refine pv_iload_n d_R_takeOffRequest_6 rfl rfl ?_
  refine pv_lshl1 d_R_takeOffRequest_7 (by first | assumption | omega) ?_
  refine pv_ldc2 d_R_takeOffRequest_8 wk_R_39 ?_
  refine pv_lxor d_R_takeOffRequest_11 ?_
  first | refine pv_landN d_R_takeOffRequest_12 ?_ | refine pv_landC d_R_takeOffRequest_12 ?_
  refine pR_requests d_R_takeOffRequest_13 ff_R_35 (by first | assumption | omega) ?_
  refine pv_vret d_R_takeOffRequest_16 ?_
  exact k

set_option maxRecDepth 100000 in
set_option maxHeartbeats 4000000 in
theorem k_R_memberAfter {post : Int32 → List va_E → Prop} {r n : Nat} (hr : r < 6) (hn : n < 5) (hb : bX σ) (k : post (nI (x_after (σ 11 r) n)) (memX σ ++ ρ)) : pv_M l D ty base b 1 0 0 (fun _ => True) y_R_memberAfter c_R_memberAfter 4 (some .int) [.ref (pR r + 1), .int (nI n)] (memX σ ++ ρ) (pv_QI D ty base b post) := by
  refine pv_enter [some (.ref (pR r + 1)), some (.int (nI n)), none, none] (by decide) (fun _ => rfl) (fun _ => Nat.le_of_ble_eq_true rfl) ?_
  have hb11 : σ 11 r < 32 := hb 11 r
  have loop : ∀ (j i : Nat) (z : Option Value), i + j = 4 → pv_n2 [some (.ref (pR r + 1)), some (.int (nI n)), some (.int (nI (i + 1))), z] 3 = true → post (nI (x_af (σ 11 r) n j i)) (memX σ ++ ρ) → pv_V l D ty base b c_R_memberAfter 4 y_R_memberAfter.cls (some .int) y_R_memberAfter.name (pv_rm 1 0 0) (fun _ => True) (pv_Qf base 0 0 (pv_QI D ty base b post)) 0 0 2 [some (.ref (pR r + 1)), some (.int (nI n)), some (.int (nI (i + 1))), z] [] (memX σ ++ ρ) := by
    intro j
    induction j with
    | zero =>
      intro i z hi hz k
      refine pv_iload_n d_R_memberAfter_2 rfl rfl ?_
      refine pv_iconst d_R_memberAfter_3 (nI 5) (by decide) ?_
      first | refine pv_icmpN_ge 32 (by decide) d_R_memberAfter_4 (by first | assumption | omega) (by first | assumption | omega) (fun h4 => ?_) (fun h4 => ?_) | refine pv_icmp_ge 32 (by decide) d_R_memberAfter_4 (fun h4 => ?_) (fun h4 => ?_)
      · refine pv_iload_n d_R_memberAfter_32 rfl rfl ?_
        refine pv_iret d_R_memberAfter_33 ?_
        exact k
      · omega
    | succ j ih =>
      intro i z hi hz k
      unfold x_af at k
      refine pv_iload_n d_R_memberAfter_2 rfl rfl ?_
      refine pv_iconst d_R_memberAfter_3 (nI 5) (by decide) ?_
      first | refine pv_icmpN_ge 32 (by decide) d_R_memberAfter_4 (by first | assumption | omega) (by first | assumption | omega) (fun h4 => ?_) (fun h4 => ?_) | refine pv_icmp_ge 32 (by decide) d_R_memberAfter_4 (fun h4 => ?_) (fun h4 => ?_)
      · omega
      · refine pv_iload_n d_R_memberAfter_7 rfl rfl ?_
        refine pv_iload_n d_R_memberAfter_8 rfl rfl ?_
        first | refine pv_iaddN d_R_memberAfter_9 ?_ | refine pv_iadd d_R_memberAfter_9 ?_
        refine pv_iconst d_R_memberAfter_10 (nI 5) (by decide) ?_
        refine pv_iremN d_R_memberAfter_11 (by omega) (by omega) (by omega) ?_
        refine pv_ist3 d_R_memberAfter_12 rfl (by decide) ?_
        refine pv_aload_n d_R_memberAfter_13 rfl rfl ?_
        refine gR_members d_R_memberAfter_14 ff_R_25 (by first | assumption | omega) ?_
        refine pv_iload_n d_R_memberAfter_17 rfl rfl ?_
        refine pv_callSN2I d_R_memberAfter_18 (k_O_isIn (by first | assumption | omega) (by first | assumption | omega) ?_) sb_O_isIn (List.mem_cons_self) ws_O_isIn (by decide) (by decide) (Nat.le_of_ble_eq_true rfl) (by decide) (by decide)
        have hbb := b2_lt ((σ 11 r).testBit ((n + (i + 1)) % 5))
        first | refine pv_ifN_eq 26 (by decide) d_R_memberAfter_21 (by first | assumption | omega) (fun h21 => ?_) (fun h21 => ?_) | refine pv_if_eq 26 (by decide) d_R_memberAfter_21 (fun h21 => ?_) (fun h21 => ?_)
        · refine pv_inc2 d_R_memberAfter_26 rfl (by decide) ?_
          refine pv_goto 2 (by decide) d_R_memberAfter_29 ?_
          have hc := b2_0.mp h21
          exact ih (i + 1) _ (by omega) rfl (by simpa [hc] using k)
        · refine pv_iload_n d_R_memberAfter_24 rfl rfl ?_
          refine pv_iret d_R_memberAfter_25 ?_
          have hc := b2_n0.mp h21
          simpa [hc] using k
  refine pv_iconst d_R_memberAfter_0 (nI 1) (by decide) ?_
  refine pv_ist2 d_R_memberAfter_1 rfl (by decide) ?_
  exact loop 4 0 _ rfl rfl k

theorem x_af_lt {mem n : Nat} (hn : n < 5) : ∀ j i, x_af mem n j i < 5
  | 0, _ => hn
  | j + 1, i => by
    unfold x_af
    split
    · omega
    · exact x_af_lt hn j (i + 1)
theorem bX_zero {r : Nat} {σ : Nat → Nat → Nat} (h : bX σ) (hr : r < 6) : ∀ k, bX (x_zero r σ k)
  | 0 => h
  | k + 1 => bX_sU (bX_zero h hr k) (by rw [Bx_k hr]; decide)
theorem bX_ring {r num mem : Nat} {σ : Nat → Nat → Nat} (h : bX σ) (hr : r < 6) (h1 : num < 600) (h2 : mem < 32) : bX (x_ring σ r num mem) :=
  bX_zero (bX_sU (bX_sU (bX_sU (bX_sU (bX_sU h h1) h2) (show x_after mem 4 + 1 < 6 from Nat.succ_lt_succ (x_af_lt (by decide) 4 0))) (by decide)) (by decide)) hr 5
theorem bX_offreq {σ : Nat → Nat → Nat} {r q : Nat} (h : bX σ) : bX (x_offreq σ r q) := bX_sU h (Nat.xor_lt_two_pow (h 14 r) (Nat.lt_of_le_of_lt Nat.and_le_left (h 14 r)))
set_option maxRecDepth 100000 in
set_option maxHeartbeats 4000000 in
theorem k_R_form {post : List va_E → Prop} {r num mem : Nat} (hr : r < 6) (hb : bX σ) (h1 : num < 600) (h2 : mem < 32) (k : post (memX (x_ring σ r num mem) ++ ρ)) : pv_M l D ty base b 2 0 0 (fun _ => True) y_R_form c_R_form 4 none [.ref (pR r + 1), .int (nI num), .int (nI mem)] (memX σ ++ ρ) (pv_QV D ty base b post) := by
  refine pv_enter [some (.ref (pR r + 1)), some (.int (nI num)), some (.int (nI mem)), none] (by decide) (fun _ => rfl) (fun _ => Nat.le_of_ble_eq_true rfl) ?_
  have loop : ∀ (j i : Nat), i + j = 5 → pv_V l D ty base b c_R_form 4 y_R_form.cls none y_R_form.name (pv_rm 2 0 0) (fun _ => True) (pv_Qf base 0 0 (pv_QV D ty base b post)) 0 0 31 [some (.ref (pR r + 1)), some (.int (nI num)), some (.int (nI mem)), some (.int (nI i))] [] (memX (x_zero r (sU (sU (sU (sU (sU σ 10 r num) 11 r mem) 12 r (x_after mem 4 + 1)) 13 r 0) 14 r 0) i) ++ ρ) := by
    intro j
    induction j with
    | zero =>
      intro i hi
      refine pv_iload_n d_R_form_31 rfl rfl ?_
      refine pv_iconst d_R_form_32 (nI 5) (by decide) ?_
      first | refine pv_icmpN_ge 49 (by decide) d_R_form_33 (by first | assumption | omega) (by first | assumption | omega) (fun h33 => ?_) (fun h33 => ?_) | refine pv_icmp_ge 49 (by decide) d_R_form_33 (fun h33 => ?_) (fun h33 => ?_)
      · refine pv_vret d_R_form_49 ?_
        obtain rfl : i = 5 := by omega
        exact k
      · omega
    | succ j ih =>
      intro i hi
      refine pv_iload_n d_R_form_31 rfl rfl ?_
      refine pv_iconst d_R_form_32 (nI 5) (by decide) ?_
      first | refine pv_icmpN_ge 49 (by decide) d_R_form_33 (by first | assumption | omega) (by first | assumption | omega) (fun h33 => ?_) (fun h33 => ?_) | refine pv_icmp_ge 49 (by decide) d_R_form_33 (fun h33 => ?_) (fun h33 => ?_)
      · omega
      · refine pv_aload_n d_R_form_36 rfl rfl ?_
        refine gR_marks d_R_form_37 ff_R_15 (by first | assumption | omega) ?_
        refine pv_iload_n d_R_form_40 rfl rfl ?_
        refine pv_iconst d_R_form_41 (nI 0) (by decide) ?_
        refine s_marks d_R_form_42 (by first | assumption | omega) (by first | assumption | omega) ?_
        refine pv_inc3 d_R_form_43 rfl (by decide) ?_
        refine pv_goto 31 (by decide) d_R_form_46 ?_
        exact ih (i + 1) (by omega)
  refine pv_aload_n d_R_form_0 rfl rfl ?_
  refine pv_iload_n d_R_form_1 rfl rfl ?_
  refine pR_number d_R_form_2 ff_R_22 (by first | assumption | omega) ?_
  refine pv_aload_n d_R_form_5 rfl rfl ?_
  refine pv_iload_n d_R_form_6 rfl rfl ?_
  refine pR_members d_R_form_7 ff_R_25 (by first | assumption | omega) ?_
  refine pv_aload_n d_R_form_10 rfl rfl ?_
  refine pv_aload_n d_R_form_11 rfl rfl ?_
  refine pv_iconst d_R_form_12 (nI 4) (by decide) ?_
  refine pv_callV1I d_R_form_13 (k_R_memberAfter hr (show 4 < 5 by decide) (bX_sU (bX_sU hb h1) h2) ?_) sb_R_memberAfter wm_R_28 (gx_R (by first | assumption | omega)) rfl ⟨wi_R_memberAfter, we_R_memberAfter⟩ (by decide) (by decide) (Nat.le_of_ble_eq_true rfl) (by decide) (by decide)
  rw [sU_same]
  refine pR_tokenAtI d_R_form_16 ff_R_18 (by first | assumption | omega) ?_
  refine pv_aload_n d_R_form_19 rfl rfl ?_
  refine pv_iconst d_R_form_20 (nI 0) (by decide) ?_
  refine pR_last d_R_form_21 ff_R_32 (by first | assumption | omega) ?_
  refine pv_aload_n d_R_form_24 rfl rfl ?_
  refine pv_lconst d_R_form_25 (lN 0) (by decide) ?_
  refine pR_requests d_R_form_26 ff_R_35 (by first | assumption | omega) ?_
  refine pv_iconst d_R_form_29 (nI 0) (by decide) ?_
  refine pv_ist3 d_R_form_30 rfl (by decide) ?_
  exact loop 5 0 rfl

theorem x_mk_s {r n k : Nat} {σ : Nat → Nat → Nat} : x_mk r n σ (k + 1) = if (x_mk r n σ k 2 n).testBit (k + 1) = true then x_mk r n σ k else sU (x_mk r n σ k) 14 r (x_mk r n σ k 14 r ||| 2 ^ (k + 1)) := rfl
theorem x_mk_ne {r n f j : Nat} {σ : Nat → Nat → Nat} (h : f ≠ 14) : ∀ k, x_mk r n σ k f j = σ f j
  | 0 => rfl
  | k + 1 => by
    rw [x_mk_s]
    split
    · exact x_mk_ne h k
    · rw [sU_nef h]
      exact x_mk_ne h k
theorem bX_mk {r n : Nat} {σ : Nat → Nat → Nat} (h : bX σ) : ∀ k, k < 49 → bX (x_mk r n σ k)
  | 0, _ => h
  | k + 1, hk => by
    show bX (if _ then _ else _)
    split
    · exact bX_mk h k (by omega)
    · exact bX_sU (bX_mk h k (by omega)) (or_pow_lt (bX_mk h k (by omega) 14 r) hk)
set_option maxRecDepth 100000 in
set_option maxHeartbeats 4000000 in
theorem k_R_markAndRequest {post : List va_E → Prop} {r n : Nat} (hr : r < 6) (hn : n < 5) (hb : bX σ) (k : post (memX (x_mark σ r n) ++ ρ)) : pv_M l D ty base b 2 0 0 (fun _ => True) y_R_markAndRequest c_R_markAndRequest 3 none [.ref (pR r + 1), .ref (pN n + 1)] (memX σ ++ ρ) (pv_QV D ty base b post) := by
  refine pv_enter [some (.ref (pR r + 1)), some (.ref (pN n + 1)), none] (by decide) (fun _ => rfl) (fun _ => Nat.le_of_ble_eq_true rfl) ?_
  have hb13 : σ 13 r < 49 := hb 13 r
  have hb1 : bX (sU σ (50 + r) n (x_reach σ n)) := bX_sU hb (by rw [Bx_k hr]; have := x_reach_le (σ := σ) (n := n); omega)
  have x13 : ∀ i, x_mk r n (sU σ (50 + r) n (x_reach σ n)) i 13 r = σ 13 r := fun i => by rw [x_mk_ne (by decide), sU_nef (by omega)]
  have loop : ∀ (j i : Nat), i + j = σ 13 r → pv_V l D ty base b c_R_markAndRequest 3 y_R_markAndRequest.cls none y_R_markAndRequest.name (pv_rm 2 0 0) (fun _ => True) (pv_Qf base 0 0 (pv_QV D ty base b post)) 0 0 15 [some (.ref (pR r + 1)), some (.ref (pN n + 1)), some (.int (nI (i + 1)))] [] (memX (x_mk r n (sU σ (50 + r) n (x_reach σ n)) i) ++ ρ) := by
    intro j
    induction j with
    | zero =>
      intro i hi
      refine pv_iload_n d_R_markAndRequest_15 rfl rfl ?_
      refine pv_aload_n d_R_markAndRequest_16 rfl rfl ?_
      refine gR_last d_R_markAndRequest_17 ff_R_32 (by first | assumption | omega) ?_
      rw [x13]
      first | refine pv_icmpN_gt 49 (by decide) d_R_markAndRequest_20 (by first | assumption | omega) (by first | assumption | omega) (fun h20 => ?_) (fun h20 => ?_) | refine pv_icmp_gt 49 (by decide) d_R_markAndRequest_20 (fun h20 => ?_) (fun h20 => ?_)
      · refine pv_vret d_R_markAndRequest_49 ?_
        obtain rfl : i = σ 13 r := by omega
        exact k
      · omega
    | succ j ih =>
      intro i hi
      refine pv_iload_n d_R_markAndRequest_15 rfl rfl ?_
      refine pv_aload_n d_R_markAndRequest_16 rfl rfl ?_
      refine gR_last d_R_markAndRequest_17 ff_R_32 (by first | assumption | omega) ?_
      rw [x13]
      first | refine pv_icmpN_gt 49 (by decide) d_R_markAndRequest_20 (by first | assumption | omega) (by first | assumption | omega) (fun h20 => ?_) (fun h20 => ?_) | refine pv_icmp_gt 49 (by decide) d_R_markAndRequest_20 (fun h20 => ?_) (fun h20 => ?_)
      · omega
      · refine pv_aload_n d_R_markAndRequest_23 rfl rfl ?_
        refine pv_iload_n d_R_markAndRequest_24 rfl rfl ?_
        refine pv_callV1I d_R_markAndRequest_25 (k_N_holds (by first | assumption | omega) (bX_mk hb1 i (by omega)) (by first | assumption | omega) ?_) sb_N_holds wm_R_48 (gx_N (by first | assumption | omega)) rfl ⟨wi_N_holds, we_N_holds⟩ (by decide) (by decide) (Nat.le_of_ble_eq_true rfl) (by decide) (by decide)
        have hbb := b2_lt ((x_mk r n (sU σ (50 + r) n (x_reach σ n)) i 2 n).testBit (i + 1))
        first | refine pv_ifN_ne 43 (by decide) d_R_markAndRequest_28 (by first | assumption | omega) (fun h28 => ?_) (fun h28 => ?_) | refine pv_if_ne 43 (by decide) d_R_markAndRequest_28 (fun h28 => ?_) (fun h28 => ?_)
        · refine pv_inc2 d_R_markAndRequest_43 rfl (by decide) ?_
          refine pv_goto 15 (by decide) d_R_markAndRequest_46 ?_
          refine Eq.mp (congrArg (fun q => pv_V l D ty base b c_R_markAndRequest 3 y_R_markAndRequest.cls none y_R_markAndRequest.name (pv_rm 2 0 0) (fun _ => True) (pv_Qf base 0 0 (pv_QV D ty base b post)) 0 0 15 _ _ (memX q ++ ρ)) ?_) (ih (i + 1) (by omega))
          rw [x_mk_s]
          first | rw [if_pos (b2_n0.mp h28)] | rw [if_neg (by rw [b2_0.mp h28]; decide)]
        · refine pv_aload_n d_R_markAndRequest_31 rfl rfl ?_
          refine pv_dup d_R_markAndRequest_32 rfl ?_
          refine gR_requests d_R_markAndRequest_33 ff_R_35 (by first | assumption | omega) ?_
          refine pv_lconst d_R_markAndRequest_36 (lN 1) (by decide) ?_
          refine pv_iload_n d_R_markAndRequest_37 rfl rfl ?_
          refine pv_lshl1 d_R_markAndRequest_38 (by first | assumption | omega) ?_
          refine pv_lorN d_R_markAndRequest_39 ?_
          refine pR_requests d_R_markAndRequest_40 ff_R_35 (by first | assumption | omega) ?_
          refine pv_inc2 d_R_markAndRequest_43 rfl (by decide) ?_
          refine pv_goto 15 (by decide) d_R_markAndRequest_46 ?_
          refine Eq.mp (congrArg (fun q => pv_V l D ty base b c_R_markAndRequest 3 y_R_markAndRequest.cls none y_R_markAndRequest.name (pv_rm 2 0 0) (fun _ => True) (pv_Qf base 0 0 (pv_QV D ty base b post)) 0 0 15 _ _ (memX q ++ ρ)) ?_) (ih (i + 1) (by omega))
          rw [x_mk_s]
          first | rw [if_pos (b2_n0.mp h28)] | rw [if_neg (by rw [b2_0.mp h28]; decide)]
  refine pv_aload_n d_R_markAndRequest_0 rfl rfl ?_
  refine gR_marks d_R_markAndRequest_1 ff_R_15 (by first | assumption | omega) ?_
  refine pv_aload_n d_R_markAndRequest_4 rfl rfl ?_
  refine gN_number d_R_markAndRequest_5 ff_R_41 (by first | assumption | omega) ?_
  refine pv_aload_n d_R_markAndRequest_8 rfl rfl ?_
  refine pv_callV0I d_R_markAndRequest_9 (k_N_heldWithoutGap hn hb ?_) sb_N_heldWithoutGap wm_R_44 (gx_N (by first | assumption | omega)) rfl ⟨wi_N_heldWithoutGap, we_N_heldWithoutGap⟩ (by decide) (by decide) (Nat.le_of_ble_eq_true rfl) (by decide) (by decide)
  refine s_marks d_R_markAndRequest_12 (by first | assumption | omega) (by first | assumption | omega) ?_
  refine pv_iconst d_R_markAndRequest_13 (nI 1) (by decide) ?_
  refine pv_ist2 d_R_markAndRequest_14 rfl (by decide) ?_
  exact loop (σ 13 r) 0 (by omega)

theorem x_ls_le {σ : Nat → Nat → Nat} {r : Nat} : ∀ k, x_ls σ r k ≤ 48
  | 0 => Nat.le_refl _
  | k + 1 => by
    show (if _ then _ else _) ≤ 48
    have := x_ls_le (σ := σ) (r := r) k
    split
    · exact Nat.le_trans (Nat.min_le_left _ _) this
    · exact this
theorem x_ls_s {r k : Nat} {σ : Nat → Nat → Nat} : x_ls σ r (k + 1) = if (σ 11 r).testBit k = true then min (x_ls σ r k) (σ (50 + r) k) else x_ls σ r k := rfl
set_option maxRecDepth 100000 in
set_option maxHeartbeats 4000000 in
theorem k_R_leastMark {post : Int32 → List va_E → Prop} {r : Nat} (hr : r < 6) (hb : bX σ) (k : post (nI (x_least σ r)) (memX σ ++ ρ)) : pv_M l D ty base b 1 0 0 (fun _ => True) y_R_leastMark c_R_leastMark 3 (some .int) [.ref (pR r + 1)] (memX σ ++ ρ) (pv_QI D ty base b post) := by
  refine pv_enter [some (.ref (pR r + 1)), none, none] (by decide) (fun _ => rfl) (fun _ => Nat.le_of_ble_eq_true rfl) ?_
  have hb11 : σ 11 r < 32 := hb 11 r
  have loop : ∀ (j i : Nat), i + j = 5 → pv_V l D ty base b c_R_leastMark 3 y_R_leastMark.cls (some .int) y_R_leastMark.name (pv_rm 1 0 0) (fun _ => True) (pv_Qf base 0 0 (pv_QI D ty base b post)) 0 0 5 [some (.ref (pR r + 1)), some (.int (nI (x_ls σ r i))), some (.int (nI i))] [] (memX σ ++ ρ) := by
    intro j
    induction j with
    | zero =>
      intro i hi
      refine pv_iload_n d_R_leastMark_5 rfl rfl ?_
      refine pv_iconst d_R_leastMark_6 (nI 5) (by decide) ?_
      first | refine pv_icmpN_ge 38 (by decide) d_R_leastMark_7 (by first | assumption | omega) (by first | assumption | omega) (fun h7 => ?_) (fun h7 => ?_) | refine pv_icmp_ge 38 (by decide) d_R_leastMark_7 (fun h7 => ?_) (fun h7 => ?_)
      · refine pv_iload_n d_R_leastMark_38 rfl rfl ?_
        refine pv_iret d_R_leastMark_39 ?_
        obtain rfl : i = 5 := by omega
        exact k
      · omega
    | succ j ih =>
      intro i hi
      refine pv_iload_n d_R_leastMark_5 rfl rfl ?_
      refine pv_iconst d_R_leastMark_6 (nI 5) (by decide) ?_
      first | refine pv_icmpN_ge 38 (by decide) d_R_leastMark_7 (by first | assumption | omega) (by first | assumption | omega) (fun h7 => ?_) (fun h7 => ?_) | refine pv_icmp_ge 38 (by decide) d_R_leastMark_7 (fun h7 => ?_) (fun h7 => ?_)
      · omega
      · refine pv_aload_n d_R_leastMark_10 rfl rfl ?_
        refine gR_members d_R_leastMark_11 ff_R_25 (by first | assumption | omega) ?_
        refine pv_iload_n d_R_leastMark_14 rfl rfl ?_
        refine pv_callSN2I d_R_leastMark_15 (k_O_isIn (by first | assumption | omega) (by first | assumption | omega) ?_) sb_O_isIn (List.mem_cons_self) ws_O_isIn (by decide) (by decide) (Nat.le_of_ble_eq_true rfl) (by decide) (by decide)
        have hbb := b2_lt ((σ 11 r).testBit i)
        have hls := x_ls_le (σ := σ) (r := r) i
        have hmk : σ (50 + r) i < 2 ^ 31 := Nat.lt_of_lt_of_le (hb (50 + r) i) (by rw [Bx_k hr]; decide)
        first | refine pv_ifN_eq 32 (by decide) d_R_leastMark_18 (by first | assumption | omega) (fun h18 => ?_) (fun h18 => ?_) | refine pv_if_eq 32 (by decide) d_R_leastMark_18 (fun h18 => ?_) (fun h18 => ?_)
        · refine pv_inc2 d_R_leastMark_32 rfl (by decide) ?_
          refine pv_goto 5 (by decide) d_R_leastMark_35 ?_
          refine Eq.mp (congrArg (fun q => pv_V l D ty base b c_R_leastMark 3 y_R_leastMark.cls (some .int) y_R_leastMark.name (pv_rm 1 0 0) (fun _ => True) (pv_Qf base 0 0 (pv_QI D ty base b post)) 0 0 5 [some (.ref (pR r + 1)), some (.int (nI q)), some (.int (nI (i + 1)))] [] (memX σ ++ ρ)) ?_) (ih (i + 1) (by omega))
          rw [x_ls_s]
          first | rw [if_pos (b2_n0.mp h18)] | rw [if_neg (by rw [b2_0.mp h18]; decide)]
        · refine pv_iload_n d_R_leastMark_21 rfl rfl ?_
          refine pv_aload_n d_R_leastMark_22 rfl rfl ?_
          refine gR_marks d_R_leastMark_23 ff_R_15 (by first | assumption | omega) ?_
          refine pv_iload_n d_R_leastMark_26 rfl rfl ?_
          refine l_marks d_R_leastMark_27 (by first | assumption | omega) (by first | assumption | omega) ?_
          refine pv_mminN d_R_leastMark_28 wm_R_56 ws_min wn_Math wc_min (by decide) (by decide) (Nat.le_of_ble_eq_true rfl) (by decide) (by decide) (by first | assumption | omega) (by first | assumption | omega) ?_
          refine pv_ist1 d_R_leastMark_31 rfl (by decide) ?_
          refine pv_inc2 d_R_leastMark_32 rfl (by decide) ?_
          refine pv_goto 5 (by decide) d_R_leastMark_35 ?_
          refine Eq.mp (congrArg (fun q => pv_V l D ty base b c_R_leastMark 3 y_R_leastMark.cls (some .int) y_R_leastMark.name (pv_rm 1 0 0) (fun _ => True) (pv_Qf base 0 0 (pv_QI D ty base b post)) 0 0 5 [some (.ref (pR r + 1)), some (.int (nI q)), some (.int (nI (i + 1)))] [] (memX σ ++ ρ)) ?_) (ih (i + 1) (by omega))
          rw [x_ls_s]
          first | rw [if_pos (b2_n0.mp h18)] | rw [if_neg (by rw [b2_0.mp h18]; decide)]
  refine pv_bipush d_R_leastMark_0 (nI 48) (by decide) ?_
  refine pv_ist1 d_R_leastMark_2 rfl (by decide) ?_
  refine pv_iconst d_R_leastMark_3 (nI 0) (by decide) ?_
  refine pv_ist2 d_R_leastMark_4 rfl (by decide) ?_
  exact loop 5 0 rfl

set_option maxRecDepth 100000 in
set_option maxHeartbeats 4000000 in
theorem k_M_take {post : Int32 → List va_E → Prop} {n s : Nat} (h : σ 15 0 < 48) (hs : s ≤ 1) (k : post (nI (σ 15 0 + 1)) (memX (x_take σ n s) ++ ρ)) : pv_M l D ty base b 0 0 0 (fun _ => True) y_M_take c_M_take 3 (some .int) [.ref (36 + 1), .int (nI n), .int (nI s)] (memX σ ++ ρ) (pv_QI D ty base b post) := by
  refine pv_enter [some (.ref (36 + 1)), some (.int (nI n)), some (.int (nI s))] (by decide) (fun _ => rfl) (fun _ => Nat.le_of_ble_eq_true rfl) ?_
  refine pv_aload_n d_M_take_0 rfl rfl ?_
  refine pv_dup d_M_take_1 rfl ?_
  refine gM_taken d_M_take_2 ff_M_22 ?_
  refine pv_iconst d_M_take_5 (nI 1) (by decide) ?_
  first | refine pv_iaddN d_M_take_6 ?_ | refine pv_iadd d_M_take_6 ?_
  refine pM_taken d_M_take_7 ff_M_22 ?_
  refine pv_aload_n d_M_take_10 rfl rfl ?_
  refine gM_origins d_M_take_11 ff_M_9 ?_
  refine pv_aload_n d_M_take_14 rfl rfl ?_
  refine gM_taken d_M_take_15 ff_M_22 ?_
  rw [sU_same]
  refine pv_iload_n d_M_take_18 rfl rfl ?_
  refine s_origins d_M_take_19 (by first | assumption | omega) ?_
  refine pv_aload_n d_M_take_20 rfl rfl ?_
  refine gM_safe d_M_take_21 ff_M_15 ?_
  refine pv_aload_n d_M_take_24 rfl rfl ?_
  refine gM_taken d_M_take_25 ff_M_22 ?_
  rw [sU_nef (by decide), sU_same]
  refine pv_iload_n d_M_take_28 rfl rfl ?_
  refine s_safe d_M_take_29 (by first | assumption | omega) (nar_b (by omega)) ?_
  refine pv_aload_n d_M_take_30 rfl rfl ?_
  refine gM_taken d_M_take_31 ff_M_22 ?_
  rw [sU_nef (by decide), sU_nef (by decide), sU_same]
  refine pv_iret d_M_take_34 ?_
  exact k

set_option maxRecDepth 100000 in
set_option maxHeartbeats 4000000 in
theorem k_O_hearEachOther {post : Int32 → List va_E → Prop} {n k1 : Nat} (hn : n < 5) (hk : k1 < 5) (hb : bX σ) (k : post (nI (b2 (x_hear σ n k1))) (memX σ ++ ρ)) : pv_M l D ty base b 1 0 0 (fun _ => True) y_O_hearEachOther c_O_hearEachOther 2 (some .boolean) [.ref (pN n + 1), .ref (pN k1 + 1)] (memX σ ++ ρ) (pv_QI D ty base b post) := by
  refine pv_enter [some (.ref (pN n + 1)), some (.ref (pN k1 + 1))] (by decide) (fun _ => rfl) (fun _ => Nat.le_of_ble_eq_true rfl) ?_
  have ha1 : σ 5 n < 3 := hb 5 n
  have ha2 : σ 5 k1 < 3 := hb 5 k1
  refine pv_aload_n d_O_hearEachOther_0 rfl rfl ?_
  refine pv_callV0I d_O_hearEachOther_1 (k_N_isUp (by first | assumption | omega) ?_) sb_N_isUp wm_O_43 (gx_N (by first | assumption | omega)) rfl ⟨wi_N_isUp, we_N_isUp⟩ (by decide) (by decide) (Nat.le_of_ble_eq_true rfl) (by decide) (by decide)
  have hbb := b2_lt (decide (σ 1 n ≠ 0))
  first | refine pv_ifN_eq 33 (by decide) d_O_hearEachOther_4 (by first | assumption | omega) (fun h4 => ?_) (fun h4 => ?_) | refine pv_if_eq 33 (by decide) d_O_hearEachOther_4 (fun h4 => ?_) (fun h4 => ?_)
  · refine pv_iconst d_O_hearEachOther_33 (nI 0) (by decide) ?_
    refine pv_zret d_O_hearEachOther_34 (by first | rfl | decide) ?_
    first | (have hx : x_hear σ n k1 = false := decide_eq_false (fun q => (of_decide_eq_false (b2_0.mp h4)) q.1); rw [hx] at k; exact k) | (have hx : x_hear σ n k1 = false := decide_eq_false (fun q => h15 (congrArg xp q.2.1)); rw [hx] at k; exact k) | (have hx : x_hear σ n k1 = false := decide_eq_false (fun q => h26 q.2.2); rw [hx] at k; exact k) | (have hx : x_hear σ n k1 = true := decide_eq_true ⟨of_decide_eq_true (b2_n0.mp h4), xp_inj h15, h26⟩; rw [hx] at k; exact k)
  · refine pv_aload_n d_O_hearEachOther_7 rfl rfl ?_
    refine gN_ring d_O_hearEachOther_8 ff_O_60 (by first | assumption | omega) ?_
    refine pv_aload_n d_O_hearEachOther_11 rfl rfl ?_
    refine gN_ring d_O_hearEachOther_12 ff_O_60 (by first | assumption | omega) ?_
    refine pv_acmp_ne 33 (by decide) d_O_hearEachOther_15 (fun h15 => ?_) (fun h15 => ?_)
    · refine pv_iconst d_O_hearEachOther_33 (nI 0) (by decide) ?_
      refine pv_zret d_O_hearEachOther_34 (by first | rfl | decide) ?_
      first | (have hx : x_hear σ n k1 = false := decide_eq_false (fun q => (of_decide_eq_false (b2_0.mp h4)) q.1); rw [hx] at k; exact k) | (have hx : x_hear σ n k1 = false := decide_eq_false (fun q => h15 (congrArg xp q.2.1)); rw [hx] at k; exact k) | (have hx : x_hear σ n k1 = false := decide_eq_false (fun q => h26 q.2.2); rw [hx] at k; exact k) | (have hx : x_hear σ n k1 = true := decide_eq_true ⟨of_decide_eq_true (b2_n0.mp h4), xp_inj h15, h26⟩; rw [hx] at k; exact k)
    · refine pv_aload_n d_O_hearEachOther_18 rfl rfl ?_
      refine gN_area d_O_hearEachOther_19 ff_O_96 (by first | assumption | omega) ?_
      refine pv_aload_n d_O_hearEachOther_22 rfl rfl ?_
      refine gN_area d_O_hearEachOther_23 ff_O_96 (by first | assumption | omega) ?_
      first | refine pv_icmpN_ne 33 (by decide) d_O_hearEachOther_26 (by first | assumption | omega) (by first | assumption | omega) (fun h26 => ?_) (fun h26 => ?_) | refine pv_icmp_ne 33 (by decide) d_O_hearEachOther_26 (fun h26 => ?_) (fun h26 => ?_)
      · refine pv_iconst d_O_hearEachOther_33 (nI 0) (by decide) ?_
        refine pv_zret d_O_hearEachOther_34 (by first | rfl | decide) ?_
        first | (have hx : x_hear σ n k1 = false := decide_eq_false (fun q => (of_decide_eq_false (b2_0.mp h4)) q.1); rw [hx] at k; exact k) | (have hx : x_hear σ n k1 = false := decide_eq_false (fun q => h15 (congrArg xp q.2.1)); rw [hx] at k; exact k) | (have hx : x_hear σ n k1 = false := decide_eq_false (fun q => h26 q.2.2); rw [hx] at k; exact k) | (have hx : x_hear σ n k1 = true := decide_eq_true ⟨of_decide_eq_true (b2_n0.mp h4), xp_inj h15, h26⟩; rw [hx] at k; exact k)
      · refine pv_iconst d_O_hearEachOther_29 (nI 1) (by decide) ?_
        refine pv_goto 34 (by decide) d_O_hearEachOther_30 ?_
        refine pv_zret d_O_hearEachOther_34 (by first | rfl | decide) ?_
        first | (have hx : x_hear σ n k1 = false := decide_eq_false (fun q => (of_decide_eq_false (b2_0.mp h4)) q.1); rw [hx] at k; exact k) | (have hx : x_hear σ n k1 = false := decide_eq_false (fun q => h15 (congrArg xp q.2.1)); rw [hx] at k; exact k) | (have hx : x_hear σ n k1 = false := decide_eq_false (fun q => h26 q.2.2); rw [hx] at k; exact k) | (have hx : x_hear σ n k1 = true := decide_eq_true ⟨of_decide_eq_true (b2_n0.mp h4), xp_inj h15, h26⟩; rw [hx] at k; exact k)

end RING
end
section
/-! 13.pure2: what the class's own private methods do, on its state -/
section PURE2
def x_nodes (σ : Nat → Nat → Nat) (r k : Nat) : Nat := it (fun n a => if σ 1 n = r + 1 then a ||| 2 ^ n else a) 0 k
def x_upin (σ : Nat → Nat → Nat) (a k : Nat) : Nat := it (fun n c => if σ 1 n ≠ 0 ∧ σ 5 n = a then c ||| 2 ^ n else c) 0 k
def x_unf (σ : Nat → Nat → Nat) : Nat → Nat → Nat
  | 0, _ => 5
  | j + 1, i => if x_nodes σ i 5 = 0 then i else x_unf σ j (i + 1)
def x_unused (σ : Nat → Nat → Nat) : Nat := x_unf σ 5 0
def x_ent (mem r : Nat) (σ : Nat → Nat → Nat) (k : Nat) : Nat → Nat → Nat := it (fun n s => if mem.testBit n = true then x_enter s n r else s) σ k
def x_enterNew (σ : Nat → Nat → Nat) (mem : Nat) : Nat → Nat → Nat := x_ent mem (x_unused σ) (x_ring (sU σ 0 0 (σ 0 0 + 1)) (x_unused σ) (σ 0 0 + 1) mem) 5
def x_bc (n q : Nat) (σ : Nat → Nat → Nat) (k : Nat) : Nat → Nat → Nat := it (fun k s => if k ≠ n ∧ x_hear s n k = true then x_recv s k q else s) σ k
def x_bcast (σ : Nat → Nat → Nat) (n q : Nat) : Nat → Nat → Nat := x_bc n q (x_hold σ n q) 5
def x_dl (σ : Nat → Nat → Nat) (n r q : Nat) : Bool := (σ 2 n).testBit q && (decide (q ≤ σ 6 n) || decide (σ 61 (σ (40 + r) q) = 0))
def x_del (n r : Nat) : Nat → (Nat → Nat → Nat) → Nat → Nat → Nat
  | 0, s => s
  | j + 1, s => if x_dl s n r (s 7 n + 1) = true then x_del n r j (sU (x_app s n (2 * s (40 + r) (s 7 n + 1))) 7 n (s 7 n + 1)) else s
def x_delR (r : Nat) (σ : Nat → Nat → Nat) (k : Nat) : Nat → Nat → Nat := it (fun n s => if s 1 n = r + 1 then x_del n r (48 - s 7 n) s else s) σ k
def x_st (σ : Nat → Nat → Nat) (n : Nat) : Nat → Nat → Bool
  | 0, _ => false
  | j + 1, i => if σ 1 i ≠ 0 ∧ σ 5 i = σ 5 n ∧ σ 1 i ≠ σ 1 n then true else x_st σ n j (i + 1)
def x_pass (σ : Nat → Nat → Nat) (n r : Nat) : Nat → Nat → Nat := sU σ 12 r (if x_hear σ n (x_after (σ 11 r) n) = true then x_after (σ 11 r) n + 1 else 0)
def x_tr (n r c : Nat) : Nat → Nat → Bool → (Nat → Nat → Nat) → Nat → Nat → Nat
  | 0, _, _, s => s
  | j + 1, i, g, s => if (s 2 n).testBit i = true then x_tr n r c j (i + 1) g (if g = false ∨ c.testBit (s 60 (s (40 + r) i)) = true then x_app s n (2 * s (40 + r) i + 1) else s) else x_tr n r c j (i + 1) true s
def x_lh (σ : Nat → Nat → Nat) (c k : Nat) : Nat := it (fun n h => if c.testBit n = true then h ||| σ 2 n else h) 0 k
def x_ll (σ : Nat → Nat → Nat) (c k : Nat) : Nat := it (fun n l => if c.testBit n = true then max l (σ 6 n) else l) 0 k
def x_l1 (r c h l n : Nat) (s : Nat → Nat → Nat) : Nat → Nat → Nat := x_del n r (48 - sU (sU s 2 n h) 6 n l 7 n) (sU (sU s 2 n h) 6 n l)
def x_l2 (r c h l : Nat) (σ : Nat → Nat → Nat) (k : Nat) : Nat → Nat → Nat := it (fun n s => if c.testBit n = true then x_tr n r c (48 - x_l1 r c h l n s 7 n) (x_l1 r c h l n s 7 n + 1) false (x_l1 r c h l n s) else s) σ k
def x_left (σ : Nat → Nat → Nat) (r c : Nat) : Nat → Nat → Nat := x_l2 r c (x_lh σ c 5) (x_ll σ c 5) σ 5
def x_f6 (mem : Nat) (σ : Nat → Nat → Nat) (k : Nat) : Nat → Nat → Nat := it (fun r s => if x_nodes s r 5 &&& mem ≠ 0 then x_left s r (x_nodes s r 5 &&& mem) else s) σ k
def x_form (σ : Nat → Nat → Nat) (a : Nat) : Nat → Nat → Nat := x_enterNew (x_f6 (x_upin σ a 5) σ 6) (x_upin σ a 5)
def x_rq (n r : Nat) (σ : Nat → Nat → Nat) (k : Nat) : (Nat → Nat → Nat) × Nat := it (fun i p => if (p.1 14 r).testBit (i + 1) = true ∧ (p.1 2 n).testBit (i + 1) = true then (x_bcast (x_offreq p.1 r (i + 1)) n (i + 1), p.2 + 1) else p) (σ, 0) k
def x_nw1 (n r : Nat) (σ : Nat → Nat → Nat) : Nat → Nat → Nat := x_bcast (sU (sU (sU (x_deq σ n) 13 r (σ 13 r + 1)) (40 + r) (σ 13 r + 1) (σ (20 + n) 0)) 62 (σ (20 + n) 0) (64 * σ 10 r + (σ 13 r + 1))) n (σ 13 r + 1)
def x_nw (n r : Nat) : Nat → (Nat → Nat → Nat) → Nat → (Nat → Nat → Nat) × Nat
  | 0, s, c => (s, c)
  | j + 1, s, c => if 0 < s 3 n ∧ s 13 r < 48 then x_nw n r j (x_nw1 n r s) (c + 1) else (s, c)
theorem x_nodes_s {σ : Nat → Nat → Nat} {r k : Nat} : x_nodes σ r (k + 1) = if σ 1 k = r + 1 then x_nodes σ r k ||| 2 ^ k else x_nodes σ r k := rfl
theorem x_upin_s {σ : Nat → Nat → Nat} {a k : Nat} : x_upin σ a (k + 1) = if σ 1 k ≠ 0 ∧ σ 5 k = a then x_upin σ a k ||| 2 ^ k else x_upin σ a k := rfl
theorem or_pow_lt' {a k : Nat} (h : a < 2 ^ k) : a ||| 2 ^ k < 2 ^ (k + 1) := Nat.or_lt_two_pow (Nat.lt_of_lt_of_le h (Nat.pow_le_pow_right (by decide) (Nat.le_succ k))) (Nat.pow_lt_pow_right (by decide) (Nat.lt_succ_self k))
theorem lt_pow_s {a k : Nat} (h : a < 2 ^ k) : a < 2 ^ (k + 1) := Nat.lt_of_lt_of_le h (Nat.pow_le_pow_right (by decide) (Nat.le_succ k))
theorem x_nodes_lt {σ : Nat → Nat → Nat} {r : Nat} : ∀ k, x_nodes σ r k < 2 ^ k
  | 0 => by show 0 < 2 ^ 0; decide
  | k + 1 => by
    rw [x_nodes_s]
    split
    · exact or_pow_lt' (x_nodes_lt k)
    · exact lt_pow_s (x_nodes_lt k)
theorem x_upin_lt {σ : Nat → Nat → Nat} {a : Nat} : ∀ k, x_upin σ a k < 2 ^ k
  | 0 => by show 0 < 2 ^ 0; decide
  | k + 1 => by
    rw [x_upin_s]
    split
    · exact or_pow_lt' (x_upin_lt k)
    · exact lt_pow_s (x_upin_lt k)
theorem x_unf_lt {σ : Nat → Nat → Nat} : ∀ j i, i + j ≤ 6 → x_unf σ j i < 6
  | 0, _, _ => by show 5 < 6; decide
  | j + 1, i, h => by
    unfold x_unf
    split
    · omega
    · exact x_unf_lt j (i + 1) (by omega)
theorem x_unused_lt {σ : Nat → Nat → Nat} : x_unused σ < 6 := x_unf_lt 5 0 (by decide)
theorem x_ent_s {mem r k : Nat} {σ : Nat → Nat → Nat} : x_ent mem r σ (k + 1) = if mem.testBit k = true then x_enter (x_ent mem r σ k) k r else x_ent mem r σ k := rfl
theorem bX_ent {mem r : Nat} {σ : Nat → Nat → Nat} (h : bX σ) (hr : r < 6) : ∀ k, bX (x_ent mem r σ k)
  | 0 => h
  | k + 1 => by
    rw [x_ent_s]
    split
    · exact bX_enter (bX_ent h hr k) hr
    · exact bX_ent h hr k
theorem x_bc_s {n q k : Nat} {σ : Nat → Nat → Nat} : x_bc n q σ (k + 1) = if k ≠ n ∧ x_hear (x_bc n q σ k) n k = true then x_recv (x_bc n q σ k) k q else x_bc n q σ k := rfl
theorem bX_bc {n q : Nat} {σ : Nat → Nat → Nat} (h : bX σ) (hq : q < 49) : ∀ k, bX (x_bc n q σ k)
  | 0 => h
  | k + 1 => by
    rw [x_bc_s]
    split
    · exact bX_recv (bX_bc h hq k) hq
    · exact bX_bc h hq k
theorem bX_bcast {n q : Nat} {σ : Nat → Nat → Nat} (h : bX σ) (hq : q < 49) : bX (x_bcast σ n q) := bX_bc (bX_hold h hq) hq 5
theorem bX_app {n e : Nat} {σ : Nat → Nat → Nat} (h : bX σ) (hn : n < 5) (he : e < 98) : bX (x_app σ n e) := by
  unfold x_app
  split
  · exact bX_sU (bX_sU h (by rw [Bx_e hn]; exact he)) (show σ 4 n + 1 < 49 by omega)
  · exact h
theorem x_app_ne {n e f j : Nat} {σ : Nat → Nat → Nat} (h1 : f ≠ 4) (h2 : f ≠ 30 + n) : x_app σ n e f j = σ f j := by
  unfold x_app
  split
  · rw [sU_nef h1, sU_nef h2]
  · rfl
theorem msg_lt {r q : Nat} {σ : Nat → Nat → Nat} (h : bX σ) (hr : r < 6) : σ (40 + r) q < 49 := by
  have := h (40 + r) q
  rw [Bx_a hr] at this
  exact this
theorem bX_del1 {n r : Nat} {σ : Nat → Nat → Nat} (h : bX σ) (hn : n < 5) (hr : r < 6) (h7 : σ 7 n < 48) : bX (sU (x_app σ n (2 * σ (40 + r) (σ 7 n + 1))) 7 n (σ 7 n + 1)) :=
  bX_sU (bX_app h hn (by have := msg_lt (q := σ 7 n + 1) h hr; omega)) (show σ 7 n + 1 < 49 by omega)
theorem bX_del {n r : Nat} (hn : n < 5) (hr : r < 6) : ∀ j (σ : Nat → Nat → Nat), bX σ → σ 7 n + j ≤ 48 → bX (x_del n r j σ)
  | 0, _, h, _ => h
  | j + 1, σ, h, h7 => by
    unfold x_del
    split
    · refine bX_del hn hr j _ (bX_del1 h hn hr (by omega)) ?_
      rw [sU_same]
      omega
    · exact h
theorem x_delR_s {r k : Nat} {σ : Nat → Nat → Nat} : x_delR r σ (k + 1) = if x_delR r σ k 1 k = r + 1 then x_del k r (48 - x_delR r σ k 7 k) (x_delR r σ k) else x_delR r σ k := rfl
theorem bX_delR {r : Nat} {σ : Nat → Nat → Nat} (h : bX σ) (hr : r < 6) : ∀ k, k ≤ 5 → bX (x_delR r σ k)
  | 0, _ => h
  | k + 1, hk => by
    rw [x_delR_s]
    have hb := bX_delR h hr k (by omega)
    split
    · have h7 : x_delR r σ k 7 k < 49 := hb 7 k
      exact bX_del (by omega) hr _ _ hb (by omega)
    · exact hb
theorem bX_tr {n r c : Nat} (hn : n < 5) (hr : r < 6) : ∀ j i g (σ : Nat → Nat → Nat), bX σ → bX (x_tr n r c j i g σ)
  | 0, _, _, _, h => h
  | j + 1, i, g, σ, h => by
    unfold x_tr
    split
    · refine bX_tr hn hr j _ _ _ ?_
      split
      · exact bX_app h hn (by have := msg_lt (q := i) h hr; omega)
      · exact h
    · exact bX_tr hn hr j _ _ _ h
theorem x_lh_s {σ : Nat → Nat → Nat} {c k : Nat} : x_lh σ c (k + 1) = if c.testBit k = true then x_lh σ c k ||| σ 2 k else x_lh σ c k := rfl
theorem x_ll_s {σ : Nat → Nat → Nat} {c k : Nat} : x_ll σ c (k + 1) = if c.testBit k = true then max (x_ll σ c k) (σ 6 k) else x_ll σ c k := rfl
theorem x_lh_lt {σ : Nat → Nat → Nat} {c : Nat} (h : bX σ) : ∀ k, x_lh σ c k < 2 ^ 49
  | 0 => by show 0 < 2 ^ 49; decide
  | k + 1 => by
    rw [x_lh_s]
    split
    · exact Nat.or_lt_two_pow (x_lh_lt h k) (h 2 k)
    · exact x_lh_lt h k
theorem x_ll_lt {σ : Nat → Nat → Nat} {c : Nat} (h : bX σ) : ∀ k, x_ll σ c k < 49
  | 0 => by show 0 < 49; decide
  | k + 1 => by
    rw [x_ll_s]
    have h1 := x_ll_lt (c := c) h k
    have h2 : σ 6 k < 49 := h 6 k
    split
    · omega
    · exact h1
theorem x_l2_s {r c h l k : Nat} {σ : Nat → Nat → Nat} : x_l2 r c h l σ (k + 1) = if c.testBit k = true then x_tr k r c (48 - x_l1 r c h l k (x_l2 r c h l σ k) 7 k) (x_l1 r c h l k (x_l2 r c h l σ k) 7 k + 1) false (x_l1 r c h l k (x_l2 r c h l σ k)) else x_l2 r c h l σ k := rfl
theorem bX_l1 {r c h l n : Nat} {s : Nat → Nat → Nat} (hb : bX s) (hn : n < 5) (hr : r < 6) (hh : h < 2 ^ 49) (hl : l < 49) : bX (x_l1 r c h l n s) := by
  have h7 : s 7 n < 49 := hb 7 n
  refine bX_del hn hr _ _ (bX_sU (bX_sU hb hh) hl) ?_
  rw [sU_nef (by decide), sU_nef (by decide)]
  omega
theorem bX_l2 {r c h l : Nat} {σ : Nat → Nat → Nat} (hb : bX σ) (hr : r < 6) (hh : h < 2 ^ 49) (hl : l < 49) : ∀ k, k ≤ 5 → bX (x_l2 r c h l σ k)
  | 0, _ => hb
  | k + 1, hk => by
    rw [x_l2_s]
    have h1 := bX_l2 (c := c) hb hr hh hl k (by omega)
    split
    · exact bX_tr (by omega) hr _ _ _ _ (bX_l1 h1 (by omega) hr hh hl)
    · exact h1
theorem bX_left {r c : Nat} {σ : Nat → Nat → Nat} (hb : bX σ) (hr : r < 6) : bX (x_left σ r c) := bX_l2 hb hr (x_lh_lt hb 5) (x_ll_lt hb 5) 5 (by decide)
theorem x_f6_s {mem k : Nat} {σ : Nat → Nat → Nat} : x_f6 mem σ (k + 1) = if x_nodes (x_f6 mem σ k) k 5 &&& mem ≠ 0 then x_left (x_f6 mem σ k) k (x_nodes (x_f6 mem σ k) k 5 &&& mem) else x_f6 mem σ k := rfl
theorem bX_f6 {mem : Nat} {σ : Nat → Nat → Nat} (hb : bX σ) : ∀ k, k ≤ 6 → bX (x_f6 mem σ k)
  | 0, _ => hb
  | k + 1, hk => by
    rw [x_f6_s]
    split
    · exact bX_left (bX_f6 hb k (by omega)) (by omega)
    · exact bX_f6 hb k (by omega)
theorem bX_enterNew {mem : Nat} {σ : Nat → Nat → Nat} (hb : bX σ) (h0 : σ 0 0 + 1 < 600) (hm : mem < 32) : bX (x_enterNew σ mem) := bX_ent (bX_ring (bX_sU hb h0) x_unused_lt h0 hm) x_unused_lt 5
theorem x_rq_s {n r k : Nat} {σ : Nat → Nat → Nat} : x_rq n r σ (k + 1) = if ((x_rq n r σ k).1 14 r).testBit (k + 1) = true ∧ ((x_rq n r σ k).1 2 n).testBit (k + 1) = true then (x_bcast (x_offreq (x_rq n r σ k).1 r (k + 1)) n (k + 1), (x_rq n r σ k).2 + 1) else x_rq n r σ k := rfl
theorem bX_rq {n r : Nat} {σ : Nat → Nat → Nat} (hb : bX σ) : ∀ k, k ≤ 48 → bX (x_rq n r σ k).1
  | 0, _ => hb
  | k + 1, hk => by
    rw [x_rq_s]
    split
    · exact bX_bcast (bX_offreq (bX_rq hb k (by omega))) (by omega)
    · exact bX_rq hb k (by omega)
theorem x_rq_le {n r : Nat} {σ : Nat → Nat → Nat} : ∀ k, (x_rq n r σ k).2 ≤ k
  | 0 => Nat.le_refl _
  | k + 1 => by
    rw [x_rq_s]
    have := x_rq_le (n := n) (r := r) (σ := σ) k
    split
    · show (x_rq n r σ k).2 + 1 ≤ _
      omega
    · omega
theorem bX_shift {n : Nat} {σ : Nat → Nat → Nat} (h : bX σ) (hn : n < 5) : ∀ k, bX (x_shift n σ k)
  | 0 => h
  | k + 1 => bX_sU (bX_shift h hn k) (bX_shift h hn k (20 + n) (k + 1))
theorem bX_deq {n : Nat} {σ : Nat → Nat → Nat} (h : bX σ) (hn : n < 5) : bX (x_deq σ n) := bX_sU (bX_shift h hn _) (Nat.lt_of_le_of_lt (Nat.sub_le _ _) (h 3 n))
theorem x_deq_ne {n f j : Nat} {σ : Nat → Nat → Nat} (h1 : f ≠ 3) (h2 : f ≠ 20 + n) : x_deq σ n f j = σ f j := by
  unfold x_deq
  rw [sU_nef h1, x_shift_ne h2]
theorem q_lt {n k : Nat} {σ : Nat → Nat → Nat} (h : bX σ) (hn : n < 5) : σ (20 + n) k < 49 := by
  have := h (20 + n) k
  rw [Bx_q hn] at this
  exact this
theorem bX_nw0 {n r : Nat} {σ : Nat → Nat → Nat} (h : bX σ) (hn : n < 5) (hr : r < 6) (h13 : σ 13 r < 48) : bX (sU (sU (sU (x_deq σ n) 13 r (σ 13 r + 1)) (40 + r) (σ 13 r + 1) (σ (20 + n) 0)) 62 (σ (20 + n) 0) (64 * σ 10 r + (σ 13 r + 1))) := by
  have h10 : σ 10 r < 600 := h 10 r
  exact bX_sU (bX_sU (bX_sU (bX_deq h hn) (show _ < 49 by omega)) (by rw [Bx_a hr]; exact q_lt h hn)) (show _ < 2 ^ 17 by omega)
theorem bX_nw1 {n r : Nat} {σ : Nat → Nat → Nat} (h : bX σ) (hn : n < 5) (hr : r < 6) (h13 : σ 13 r < 48) : bX (x_nw1 n r σ) := bX_bcast (bX_nw0 h hn hr h13) (by omega)
theorem bX_nw {n r : Nat} (hn : n < 5) (hr : r < 6) : ∀ j (σ : Nat → Nat → Nat) c, bX σ → bX (x_nw n r j σ c).1
  | 0, _, _, h => h
  | j + 1, σ, c, h => by
    unfold x_nw
    split
    · rename_i q
      exact bX_nw hn hr j _ _ (bX_nw1 h hn hr q.2)
    · exact h
end PURE2
end
section
/-! 14.own: what the private methods of RotatingTokenGroup do -/
section OWN
variable {l : Launch} {D : va_G} {ty : Nat → ClassId} {base b : Nat} {σ : Nat → Nat → Nat} {ρ ξ : List va_E}
variable {M : List va_E}
set_option maxRecDepth 100000 in
set_option maxHeartbeats 4000000 in
theorem k_O_nodesOf {post : Int32 → List va_E → Prop} {r : Nat} (k : post (nI (x_nodes σ r 5)) (memX σ ++ ρ)) : pv_M l D ty base b 0 0 0 (fun _ => True) y_O_nodesOf c_O_nodesOf 4 (some .int) [.ref (0 + 1), .ref (pR r + 1)] (memX σ ++ ρ) (pv_QI D ty base b post) := by
  refine pv_enter [some (.ref (0 + 1)), some (.ref (pR r + 1)), none, none] (by decide) (fun _ => rfl) (fun _ => Nat.le_of_ble_eq_true rfl) ?_
  have loop : ∀ (j i : Nat), i + j = 5 → pv_V l D ty base b c_O_nodesOf 4 y_O_nodesOf.cls (some .int) y_O_nodesOf.name (pv_rm 0 0 0) (fun _ => True) (pv_Qf base 0 0 (pv_QI D ty base b post)) 0 0 4 [some (.ref (0 + 1)), some (.ref (pR r + 1)), some (.int (nI (x_nodes σ r i))), some (.int (nI (i)))] [] (memX σ ++ ρ) := by
    intro j
    induction j with
    | zero =>
      intro i hi
      refine pv_iload_n d_O_nodesOf_4 rfl rfl ?_
      refine pv_iconst d_O_nodesOf_5 (nI 5) (by decide) ?_
      first | refine pv_icmpN_ge 34 (by decide) d_O_nodesOf_6 (by first | assumption | omega) (by first | assumption | omega) (fun h6 => ?_) (fun h6 => ?_) | refine pv_icmp_ge 34 (by decide) d_O_nodesOf_6 (fun h6 => ?_) (fun h6 => ?_)
      · refine pv_iload_n d_O_nodesOf_34 rfl rfl ?_
        refine pv_iret d_O_nodesOf_35 ?_
        obtain rfl : i = 5 := by omega
        exact k
      · omega
    | succ j ih =>
      intro i hi
      refine pv_iload_n d_O_nodesOf_4 rfl rfl ?_
      refine pv_iconst d_O_nodesOf_5 (nI 5) (by decide) ?_
      first | refine pv_icmpN_ge 34 (by decide) d_O_nodesOf_6 (by first | assumption | omega) (by first | assumption | omega) (fun h6 => ?_) (fun h6 => ?_) | refine pv_icmp_ge 34 (by decide) d_O_nodesOf_6 (fun h6 => ?_) (fun h6 => ?_)
      · omega
      · refine pv_aload_n d_O_nodesOf_9 rfl rfl ?_
        refine gO_nodes d_O_nodesOf_10 ff_O_11 ?_
        refine pv_iload_n d_O_nodesOf_13 rfl rfl ?_
        refine l_nodes d_O_nodesOf_14 (by first | assumption | omega) ?_
        refine gN_ring d_O_nodesOf_15 ff_O_60 (by first | assumption | omega) ?_
        refine pv_aload_n d_O_nodesOf_18 rfl rfl ?_
        refine pv_acmp_ne (y := some _) 28 (by decide) d_O_nodesOf_19 (fun h19 => ?_) (fun h19 => ?_)
        · refine pv_inc3 d_O_nodesOf_28 rfl (by decide) ?_
          refine pv_goto 4 (by decide) d_O_nodesOf_31 ?_
          have hq := ih (i + 1) (by omega)
          rw [x_nodes_s] at hq
          rw [if_neg (fun z => h19 (xp_some.mpr z))] at hq
          exact hq
        · refine pv_iload_n d_O_nodesOf_22 rfl rfl ?_
          refine pv_iconst d_O_nodesOf_23 (nI 1) (by decide) ?_
          refine pv_iload_n d_O_nodesOf_24 rfl rfl ?_
          first | refine pv_ishl1 d_O_nodesOf_25 (by omega) ?_ | refine pv_ishl d_O_nodesOf_25 ?_
          first | refine pv_iorN d_O_nodesOf_26 ?_ | refine pv_ior d_O_nodesOf_26 ?_
          refine pv_ist2 d_O_nodesOf_27 rfl (by decide) ?_
          refine pv_inc3 d_O_nodesOf_28 rfl (by decide) ?_
          refine pv_goto 4 (by decide) d_O_nodesOf_31 ?_
          have hq := ih (i + 1) (by omega)
          rw [x_nodes_s] at hq
          rw [if_pos (xp_some.mp h19)] at hq
          exact hq
  refine pv_iconst d_O_nodesOf_0 (nI 0) (by decide) ?_
  refine pv_ist2 d_O_nodesOf_1 rfl (by decide) ?_
  refine pv_iconst d_O_nodesOf_2 (nI 0) (by decide) ?_
  refine pv_ist3 d_O_nodesOf_3 rfl (by decide) ?_
  exact loop 5 0 rfl

set_option maxRecDepth 100000 in
set_option maxHeartbeats 4000000 in
theorem k_O_upNodesIn {post : Int32 → List va_E → Prop} {a : Nat} (ha : a < 2 ^ 31) (hb : bX σ) (k : post (nI (x_upin σ a 5)) (memX σ ++ ρ)) : pv_M l D ty base b 1 0 0 (fun _ => True) y_O_upNodesIn c_O_upNodesIn 4 (some .int) [.ref (0 + 1), .int (nI a)] (memX σ ++ ρ) (pv_QI D ty base b post) := by
  refine pv_enter [some (.ref (0 + 1)), some (.int (nI a)), none, none] (by decide) (fun _ => rfl) (fun _ => Nat.le_of_ble_eq_true rfl) ?_
  have loop : ∀ (j i : Nat), i + j = 5 → pv_V l D ty base b c_O_upNodesIn 4 y_O_upNodesIn.cls (some .int) y_O_upNodesIn.name (pv_rm 1 0 0) (fun _ => True) (pv_Qf base 0 0 (pv_QI D ty base b post)) 0 0 4 [some (.ref (0 + 1)), some (.int (nI (a))), some (.int (nI (x_upin σ a i))), some (.int (nI (i)))] [] (memX σ ++ ρ) := by
    intro j
    induction j with
    | zero =>
      intro i hi
      refine pv_iload_n d_O_upNodesIn_4 rfl rfl ?_
      refine pv_iconst d_O_upNodesIn_5 (nI 5) (by decide) ?_
      first | refine pv_icmpN_ge 46 (by decide) d_O_upNodesIn_6 (by first | assumption | omega) (by first | assumption | omega) (fun h6 => ?_) (fun h6 => ?_) | refine pv_icmp_ge 46 (by decide) d_O_upNodesIn_6 (fun h6 => ?_) (fun h6 => ?_)
      · refine pv_iload_n d_O_upNodesIn_46 rfl rfl ?_
        refine pv_iret d_O_upNodesIn_47 ?_
        obtain rfl : i = 5 := by omega
        exact k
      · omega
    | succ j ih =>
      intro i hi
      refine pv_iload_n d_O_upNodesIn_4 rfl rfl ?_
      refine pv_iconst d_O_upNodesIn_5 (nI 5) (by decide) ?_
      first | refine pv_icmpN_ge 46 (by decide) d_O_upNodesIn_6 (by first | assumption | omega) (by first | assumption | omega) (fun h6 => ?_) (fun h6 => ?_) | refine pv_icmp_ge 46 (by decide) d_O_upNodesIn_6 (fun h6 => ?_) (fun h6 => ?_)
      · omega
      · refine pv_aload_n d_O_upNodesIn_9 rfl rfl ?_
        refine gO_nodes d_O_upNodesIn_10 ff_O_11 ?_
        refine pv_iload_n d_O_upNodesIn_13 rfl rfl ?_
        refine l_nodes d_O_upNodesIn_14 (by first | assumption | omega) ?_
        refine pv_callV0I d_O_upNodesIn_15 (k_N_isUp (by first | assumption | omega) ?_) sb_N_isUp wm_O_43 (gx_N (by first | assumption | omega)) rfl ⟨wi_N_isUp, we_N_isUp⟩ (by decide) (by decide) (Nat.le_of_ble_eq_true rfl) (by decide) (by decide)
        have hbb := b2_lt (decide (σ 1 i ≠ 0))
        have h5 : σ 5 i < 3 := hb 5 i
        first | refine pv_ifN_eq 40 (by decide) d_O_upNodesIn_18 (by first | assumption | omega) (fun h18 => ?_) (fun h18 => ?_) | refine pv_if_eq 40 (by decide) d_O_upNodesIn_18 (fun h18 => ?_) (fun h18 => ?_)
        · refine pv_inc3 d_O_upNodesIn_40 rfl (by decide) ?_
          refine pv_goto 4 (by decide) d_O_upNodesIn_43 ?_
          have hq := ih (i + 1) (by omega)
          rw [x_upin_s] at hq
          rw [if_neg (fun z => (of_decide_eq_false (b2_0.mp h18)) z.1)] at hq
          exact hq
        · refine pv_aload_n d_O_upNodesIn_21 rfl rfl ?_
          refine gO_nodes d_O_upNodesIn_22 ff_O_11 ?_
          refine pv_iload_n d_O_upNodesIn_25 rfl rfl ?_
          refine l_nodes d_O_upNodesIn_26 (by first | assumption | omega) ?_
          refine gN_area d_O_upNodesIn_27 ff_O_96 (by first | assumption | omega) ?_
          refine pv_iload_n d_O_upNodesIn_30 rfl rfl ?_
          first | refine pv_icmpN_ne 40 (by decide) d_O_upNodesIn_31 (by first | assumption | omega) (by first | assumption | omega) (fun h31 => ?_) (fun h31 => ?_) | refine pv_icmp_ne 40 (by decide) d_O_upNodesIn_31 (fun h31 => ?_) (fun h31 => ?_)
          · refine pv_inc3 d_O_upNodesIn_40 rfl (by decide) ?_
            refine pv_goto 4 (by decide) d_O_upNodesIn_43 ?_
            have hq := ih (i + 1) (by omega)
            rw [x_upin_s] at hq
            rw [if_neg (fun z => h31 z.2)] at hq
            exact hq
          · refine pv_iload_n d_O_upNodesIn_34 rfl rfl ?_
            refine pv_iconst d_O_upNodesIn_35 (nI 1) (by decide) ?_
            refine pv_iload_n d_O_upNodesIn_36 rfl rfl ?_
            first | refine pv_ishl1 d_O_upNodesIn_37 (by omega) ?_ | refine pv_ishl d_O_upNodesIn_37 ?_
            first | refine pv_iorN d_O_upNodesIn_38 ?_ | refine pv_ior d_O_upNodesIn_38 ?_
            refine pv_ist2 d_O_upNodesIn_39 rfl (by decide) ?_
            refine pv_inc3 d_O_upNodesIn_40 rfl (by decide) ?_
            refine pv_goto 4 (by decide) d_O_upNodesIn_43 ?_
            have hq := ih (i + 1) (by omega)
            rw [x_upin_s] at hq
            rw [if_pos ⟨of_decide_eq_true (b2_n0.mp h18), h31⟩] at hq
            exact hq
  refine pv_iconst d_O_upNodesIn_0 (nI 0) (by decide) ?_
  refine pv_ist2 d_O_upNodesIn_1 rfl (by decide) ?_
  refine pv_iconst d_O_upNodesIn_2 (nI 0) (by decide) ?_
  refine pv_ist3 d_O_upNodesIn_3 rfl (by decide) ?_
  exact loop 5 0 rfl

set_option maxRecDepth 100000 in
set_option maxHeartbeats 4000000 in
theorem k_O_unusedRing {post : Nat → List va_E → Prop}  (k : post (pR (x_unused σ)) (memX σ ++ ρ)) : pv_M l D ty base b 1 0 0 (fun _ => True) y_O_unusedRing c_O_unusedRing 2 (some (.object "RotatingTokenGroup$Ring")) [.ref (0 + 1)] (memX σ ++ ρ) (pv_QR D ty base b post) := by
  refine pv_enter [some (.ref (0 + 1)), none] (by decide) (fun _ => rfl) (fun _ => Nat.le_of_ble_eq_true rfl) ?_
  have loop : ∀ (j i : Nat), i + j = 5 → post (pR (x_unf σ j i)) (memX σ ++ ρ) → pv_V l D ty base b c_O_unusedRing 2 y_O_unusedRing.cls (some (.object "RotatingTokenGroup$Ring")) y_O_unusedRing.name (pv_rm 1 0 0) (fun _ => True) (pv_Qf base 0 0 (pv_QR D ty base b post)) 0 0 2 [some (.ref (0 + 1)), some (.int (nI (i)))] [] (memX σ ++ ρ) := by
    intro j
    induction j with
    | zero =>
      intro i hi k
      refine pv_iload_n d_O_unusedRing_2 rfl rfl ?_
      refine pv_iconst d_O_unusedRing_3 (nI 5) (by decide) ?_
      first | refine pv_icmpN_ge 33 (by decide) d_O_unusedRing_4 (by first | assumption | omega) (by first | assumption | omega) (fun h4 => ?_) (fun h4 => ?_) | refine pv_icmp_ge 33 (by decide) d_O_unusedRing_4 (fun h4 => ?_) (fun h4 => ?_)
      · refine pv_aload_n d_O_unusedRing_33 rfl rfl ?_
        refine gO_rings d_O_unusedRing_34 ff_O_20 ?_
        refine pv_iconst d_O_unusedRing_37 (nI 5) (by decide) ?_
        refine l_rings d_O_unusedRing_38 (by first | assumption | omega) ?_
        refine pv_aret d_O_unusedRing_39 ?_
        exact k
      · omega
    | succ j ih =>
      intro i hi k
      unfold x_unf at k
      refine pv_iload_n d_O_unusedRing_2 rfl rfl ?_
      refine pv_iconst d_O_unusedRing_3 (nI 5) (by decide) ?_
      first | refine pv_icmpN_ge 33 (by decide) d_O_unusedRing_4 (by first | assumption | omega) (by first | assumption | omega) (fun h4 => ?_) (fun h4 => ?_) | refine pv_icmp_ge 33 (by decide) d_O_unusedRing_4 (fun h4 => ?_) (fun h4 => ?_)
      · omega
      · refine pv_aload_n d_O_unusedRing_7 rfl rfl ?_
        refine pv_aload_n d_O_unusedRing_8 rfl rfl ?_
        refine gO_rings d_O_unusedRing_9 ff_O_20 ?_
        refine pv_iload_n d_O_unusedRing_12 rfl rfl ?_
        refine l_rings d_O_unusedRing_13 (by first | assumption | omega) ?_
        refine pv_callV1I d_O_unusedRing_14 (k_O_nodesOf ?_) sb_O_nodesOf wm_O_204 gx_O rfl ⟨wi_O_nodesOf, we_O_nodesOf⟩ (by decide) (by decide) (Nat.le_of_ble_eq_true rfl) (by decide) (by decide)
        have hbb : x_nodes σ i 5 < 2 ^ 5 := x_nodes_lt 5
        first | refine pv_ifN_ne 27 (by decide) d_O_unusedRing_17 (by first | assumption | omega) (fun h17 => ?_) (fun h17 => ?_) | refine pv_if_ne 27 (by decide) d_O_unusedRing_17 (fun h17 => ?_) (fun h17 => ?_)
        · refine pv_inc1 d_O_unusedRing_27 rfl (by decide) ?_
          refine pv_goto 2 (by decide) d_O_unusedRing_30 ?_
          exact ih (i + 1) (by omega) (by rw [if_neg h17] at k; exact k)
        · refine pv_aload_n d_O_unusedRing_20 rfl rfl ?_
          refine gO_rings d_O_unusedRing_21 ff_O_20 ?_
          refine pv_iload_n d_O_unusedRing_24 rfl rfl ?_
          refine l_rings d_O_unusedRing_25 (by first | assumption | omega) ?_
          refine pv_aret d_O_unusedRing_26 ?_
          rw [if_pos h17] at k
          exact k
  refine pv_iconst d_O_unusedRing_0 (nI 0) (by decide) ?_
  refine pv_ist1 d_O_unusedRing_1 rfl (by decide) ?_
  exact loop 5 0 rfl k

set_option maxRecDepth 100000 in
set_option maxHeartbeats 4000000 in
theorem k_O_enterNewRing {post : List va_E → Prop} {mem : Nat} (hb : bX σ) (h0 : σ 0 0 + 1 < 600) (hm : mem < 32) (k : post (memX (x_enterNew σ mem) ++ ρ)) : pv_M l D ty base b 3 0 0 (fun _ => True) y_O_enterNewRing c_O_enterNewRing 4 none [.ref (0 + 1), .int (nI mem)] (memX σ ++ ρ) (pv_QV D ty base b post) := by
  refine pv_enter [some (.ref (0 + 1)), some (.int (nI mem)), none, none] (by decide) (fun _ => rfl) (fun _ => Nat.le_of_ble_eq_true rfl) ?_
  have hu := x_unused_lt (σ := σ)
  have hbr : bX (x_ring (sU σ 0 0 (σ 0 0 + 1)) (x_unused σ) (σ 0 0 + 1) mem) := bX_ring (bX_sU hb h0) x_unused_lt h0 hm
  have loop : ∀ (j i : Nat), i + j = 5 → pv_V l D ty base b c_O_enterNewRing 4 y_O_enterNewRing.cls none y_O_enterNewRing.name (pv_rm 3 0 0) (fun _ => True) (pv_Qf base 0 0 (pv_QV D ty base b post)) 0 0 26 [some (.ref (0 + 1)), some (.int (nI (mem))), some (.ref (pR (x_unused σ) + 1)), some (.int (nI (i)))] [] (memX (x_ent mem (x_unused σ) (x_ring (sU σ 0 0 (σ 0 0 + 1)) (x_unused σ) (σ 0 0 + 1) mem) i) ++ ρ) := by
    intro j
    induction j with
    | zero =>
      intro i hi
      refine pv_iload_n d_O_enterNewRing_26 rfl rfl ?_
      refine pv_iconst d_O_enterNewRing_27 (nI 5) (by decide) ?_
      first | refine pv_icmpN_ge 55 (by decide) d_O_enterNewRing_28 (by first | assumption | omega) (by first | assumption | omega) (fun h28 => ?_) (fun h28 => ?_) | refine pv_icmp_ge 55 (by decide) d_O_enterNewRing_28 (fun h28 => ?_) (fun h28 => ?_)
      · refine pv_vret d_O_enterNewRing_55 ?_
        obtain rfl : i = 5 := by omega
        exact k
      · omega
    | succ j ih =>
      intro i hi
      refine pv_iload_n d_O_enterNewRing_26 rfl rfl ?_
      refine pv_iconst d_O_enterNewRing_27 (nI 5) (by decide) ?_
      first | refine pv_icmpN_ge 55 (by decide) d_O_enterNewRing_28 (by first | assumption | omega) (by first | assumption | omega) (fun h28 => ?_) (fun h28 => ?_) | refine pv_icmp_ge 55 (by decide) d_O_enterNewRing_28 (fun h28 => ?_) (fun h28 => ?_)
      · omega
      · refine pv_iload_n d_O_enterNewRing_31 rfl rfl ?_
        refine pv_iload_n d_O_enterNewRing_32 rfl rfl ?_
        refine pv_callS2I d_O_enterNewRing_33 (k_O_isIn (by first | assumption | omega) (by first | assumption | omega) ?_) sb_O_isIn wm_O_212 ws_O_isIn (by decide) (by decide) (Nat.le_of_ble_eq_true rfl) (by decide) (by decide)
        have hbb := b2_lt (mem.testBit i)
        first | refine pv_ifN_eq 49 (by decide) d_O_enterNewRing_36 (by first | assumption | omega) (fun h36 => ?_) (fun h36 => ?_) | refine pv_if_eq 49 (by decide) d_O_enterNewRing_36 (fun h36 => ?_) (fun h36 => ?_)
        · refine pv_inc3 d_O_enterNewRing_49 rfl (by decide) ?_
          refine pv_goto 26 (by decide) d_O_enterNewRing_52 ?_
          have hq := ih (i + 1) (by omega)
          rw [x_ent_s] at hq
          rw [if_neg (by rw [b2_0.mp h36]; decide)] at hq
          exact hq
        · refine pv_aload_n d_O_enterNewRing_39 rfl rfl ?_
          refine gO_nodes d_O_enterNewRing_40 ff_O_11 ?_
          refine pv_iload_n d_O_enterNewRing_43 rfl rfl ?_
          refine l_nodes d_O_enterNewRing_44 (by first | assumption | omega) ?_
          refine pv_aload_n d_O_enterNewRing_45 rfl rfl ?_
          refine pv_callV1V d_O_enterNewRing_46 (k_N_enter (by first | assumption | omega) (bX_ent hbr x_unused_lt i) ?_) sb_N_enter wm_O_240 (gx_N (by first | assumption | omega)) rfl ⟨wi_N_enter, we_N_enter⟩ (by decide) (by decide) (Nat.le_of_ble_eq_true rfl) (by decide) (by decide)
          refine pv_inc3 d_O_enterNewRing_49 rfl (by decide) ?_
          refine pv_goto 26 (by decide) d_O_enterNewRing_52 ?_
          have hq := ih (i + 1) (by omega)
          rw [x_ent_s] at hq
          rw [if_pos (b2_n0.mp h36)] at hq
          exact hq
  refine pv_aload_n d_O_enterNewRing_0 rfl rfl ?_
  refine pv_callV0R d_O_enterNewRing_1 (k_O_unusedRing ?_) sb_O_unusedRing wm_O_232 gx_O rfl ⟨wi_O_unusedRing, we_O_unusedRing⟩ (by decide) (by decide) (Nat.le_of_ble_eq_true rfl) (by decide) (by decide)
  refine pv_ast2 d_O_enterNewRing_4 rfl (by decide) ?_
  refine pv_aload_n d_O_enterNewRing_5 rfl rfl ?_
  refine pv_dup d_O_enterNewRing_6 rfl ?_
  refine gO_greatestRing d_O_enterNewRing_7 ff_O_32 ?_
  refine pv_iconst d_O_enterNewRing_10 (nI 1) (by decide) ?_
  first | refine pv_iaddN d_O_enterNewRing_11 ?_ | refine pv_iadd d_O_enterNewRing_11 ?_
  refine pO_greatestRing d_O_enterNewRing_12 ff_O_32 ?_
  refine pv_aload_n d_O_enterNewRing_15 rfl rfl ?_
  refine pv_aload_n d_O_enterNewRing_16 rfl rfl ?_
  refine gO_greatestRing d_O_enterNewRing_17 ff_O_32 ?_
  rw [sU_same]
  refine pv_iload_n d_O_enterNewRing_20 rfl rfl ?_
  refine pv_callV2V d_O_enterNewRing_21 (k_R_form x_unused_lt (bX_sU hb h0) h0 hm ?_) sb_R_form wm_O_236 (gx_R (by first | assumption | omega)) rfl ⟨wi_R_form, we_R_form⟩ (by decide) (by decide) (Nat.le_of_ble_eq_true rfl) (by decide) (by decide)
  refine pv_iconst d_O_enterNewRing_24 (nI 0) (by decide) ?_
  refine pv_ist3 d_O_enterNewRing_25 rfl (by decide) ?_
  exact loop 5 0 rfl

set_option maxRecDepth 100000 in
set_option maxHeartbeats 4000000 in
theorem k_O_broadcast {post : List va_E → Prop} {n q : Nat} (hn : n < 5) (hb : bX σ) (hq : q < 49) (k : post (memX (x_bcast σ n q) ++ ρ)) : pv_M l D ty base b 2 0 0 (fun _ => True) y_O_broadcast c_O_broadcast 7 none [.ref (0 + 1), .ref (pN n + 1), .int (nI q)] (memX σ ++ ρ) (pv_QV D ty base b post) := by
  refine pv_enter [some (.ref (0 + 1)), some (.ref (pN n + 1)), some (.int (nI q)), none, none, none, none] (by decide) (fun _ => rfl) (fun _ => Nat.le_of_ble_eq_true rfl) ?_
  have hbh : bX (x_hold σ n q) := bX_hold hb hq
  have loop : ∀ (j i : Nat), i + j = 5 → pv_V l D ty base b c_O_broadcast 7 y_O_broadcast.cls none y_O_broadcast.name (pv_rm 2 0 0) (fun _ => True) (pv_Qf base 0 0 (pv_QV D ty base b post)) 0 0 17 [some (.ref (0 + 1)), some (.ref (pN n + 1)), some (.int (nI (q))), some (.ref (1 + 1)), some (.int (nI (5))), some (.int (nI (i))), none] [] (memX (x_bc n q (x_hold σ n q) i) ++ ρ) := by
    intro j
    induction j with
    | zero =>
      intro i hi
      refine pv_iload d_O_broadcast_17 rfl ?_
      refine pv_iload d_O_broadcast_19 rfl ?_
      first | refine pv_icmpN_ge 57 (by decide) d_O_broadcast_21 (by first | assumption | omega) (by first | assumption | omega) (fun h21 => ?_) (fun h21 => ?_) | refine pv_icmp_ge 57 (by decide) d_O_broadcast_21 (fun h21 => ?_) (fun h21 => ?_)
      · refine pv_vret d_O_broadcast_57 ?_
        obtain rfl : i = 5 := by omega
        exact k
      · omega
    | succ j ih =>
      intro i hi
      refine pv_iload d_O_broadcast_17 rfl ?_
      refine pv_iload d_O_broadcast_19 rfl ?_
      first | refine pv_icmpN_ge 57 (by decide) d_O_broadcast_21 (by first | assumption | omega) (by first | assumption | omega) (fun h21 => ?_) (fun h21 => ?_) | refine pv_icmp_ge 57 (by decide) d_O_broadcast_21 (fun h21 => ?_) (fun h21 => ?_)
      · omega
      · refine pv_aload_n d_O_broadcast_24 rfl rfl ?_
        refine pv_iload d_O_broadcast_25 rfl ?_
        refine l_nodes d_O_broadcast_27 (by first | assumption | omega) ?_
        refine pv_ast6 d_O_broadcast_28 rfl (by decide) ?_
        refine pv_aload d_O_broadcast_30 rfl ?_
        refine pv_aload_n d_O_broadcast_32 rfl rfl ?_
        refine pv_acmp_eq (x := some _) (y := some _) 51 (by decide) d_O_broadcast_33 (fun h33 => ?_) (fun h33 => ?_)
        · refine pv_inc5 d_O_broadcast_51 rfl (by decide) ?_
          refine pv_goto 17 (by decide) d_O_broadcast_54 ?_
          have hz := ih (i + 1) (by omega)
          rw [x_bc_s] at hz
          refine pv_fg6 ?_
          rw [if_neg (fun z => z.1 (pN_inj h33))] at hz
          exact hz
        · refine pv_aload_n d_O_broadcast_36 rfl rfl ?_
          refine pv_aload d_O_broadcast_37 rfl ?_
          refine pv_callS2I d_O_broadcast_39 (k_O_hearEachOther hn (by first | assumption | omega) (bX_bc hbh hq i) ?_) sb_O_hearEachOther wm_O_172 ws_O_hearEachOther (by decide) (by decide) (Nat.le_of_ble_eq_true rfl) (by decide) (by decide)
          have hbb := b2_lt (x_hear (x_bc n q (x_hold σ n q) i) n i)
          first | refine pv_ifN_eq 51 (by decide) d_O_broadcast_42 (by first | assumption | omega) (fun h42 => ?_) (fun h42 => ?_) | refine pv_if_eq 51 (by decide) d_O_broadcast_42 (fun h42 => ?_) (fun h42 => ?_)
          · refine pv_inc5 d_O_broadcast_51 rfl (by decide) ?_
            refine pv_goto 17 (by decide) d_O_broadcast_54 ?_
            have hz := ih (i + 1) (by omega)
            rw [x_bc_s] at hz
            refine pv_fg6 ?_
            rw [if_neg (fun z => absurd z.2 (by rw [b2_0.mp h42]; decide))] at hz
            exact hz
          · refine pv_aload d_O_broadcast_45 rfl ?_
            refine pv_iload_n d_O_broadcast_47 rfl rfl ?_
            refine pv_callV1V d_O_broadcast_48 (k_N_receive (by first | assumption | omega) (bX_bc hbh hq i) hq ?_) sb_N_receive wm_O_176 (gx_N (by first | assumption | omega)) rfl ⟨wi_N_receive, we_N_receive⟩ (by decide) (by decide) (Nat.le_of_ble_eq_true rfl) (by decide) (by decide)
            refine pv_inc5 d_O_broadcast_51 rfl (by decide) ?_
            refine pv_goto 17 (by decide) d_O_broadcast_54 ?_
            have hz := ih (i + 1) (by omega)
            rw [x_bc_s] at hz
            refine pv_fg6 ?_
            rw [if_pos ⟨fun z => h33 (by rw [z]), b2_n0.mp h42⟩] at hz
            exact hz
  refine pv_aload_n d_O_broadcast_0 rfl rfl ?_
  refine pv_iload_n d_O_broadcast_1 rfl rfl ?_
  refine pv_callV1V d_O_broadcast_2 (k_N_hold hn hq ?_) sb_N_hold wm_O_169 (gx_N (by first | assumption | omega)) rfl ⟨wi_N_hold, we_N_hold⟩ (by decide) (by decide) (Nat.le_of_ble_eq_true rfl) (by decide) (by decide)
  refine pv_aload_n d_O_broadcast_5 rfl rfl ?_
  refine gO_nodes d_O_broadcast_6 ff_O_11 ?_
  refine pv_ast3 d_O_broadcast_9 rfl (by decide) ?_
  refine pv_aload_n d_O_broadcast_10 rfl rfl ?_
  refine n_nodes d_O_broadcast_11 ?_
  refine pv_ist4 d_O_broadcast_12 rfl (by decide) ?_
  refine pv_iconst d_O_broadcast_14 (nI 0) (by decide) ?_
  refine pv_ist5 d_O_broadcast_15 rfl (by decide) ?_
  exact loop 5 0 rfl

set_option maxRecDepth 100000 in
set_option maxHeartbeats 4000000 in
theorem k_O_isDeliverable {post : Int32 → List va_E → Prop} {n r q : Nat} (hn : n < 5) (hr : r < 6) (hb : bX σ) (hq : q < 49) (k : post (nI (b2 (x_dl σ n r q))) (memX σ ++ ρ)) : pv_M l D ty base b 1 0 0 (fun _ => True) y_O_isDeliverable c_O_isDeliverable 4 (some .boolean) [.ref (0 + 1), .ref (pN n + 1), .ref (pR r + 1), .int (nI q)] (memX σ ++ ρ) (pv_QI D ty base b post) := by
  refine pv_enter [some (.ref (0 + 1)), some (.ref (pN n + 1)), some (.ref (pR r + 1)), some (.int (nI q))] (by decide) (fun _ => rfl) (fun _ => Nat.le_of_ble_eq_true rfl) ?_
  have hm := msg_lt (q := q) hb hr
  have h6 : σ 6 n < 49 := hb 6 n
  have h61 : σ 61 (σ (40 + r) q) < 2 := hb 61 _
  have hbb := b2_lt ((σ 2 n).testBit q)
  refine pv_aload_n d_O_isDeliverable_0 rfl rfl ?_
  refine pv_iload_n d_O_isDeliverable_1 rfl rfl ?_
  refine pv_callV1I d_O_isDeliverable_2 (k_N_holds hn hb hq ?_) sb_N_holds wm_O_153 (gx_N (by first | assumption | omega)) rfl ⟨wi_N_holds, we_N_holds⟩ (by decide) (by decide) (Nat.le_of_ble_eq_true rfl) (by decide) (by decide)
  first | refine pv_ifN_eq 37 (by decide) d_O_isDeliverable_5 (by first | assumption | omega) (fun h5 => ?_) (fun h5 => ?_) | refine pv_if_eq 37 (by decide) d_O_isDeliverable_5 (fun h5 => ?_) (fun h5 => ?_)
  · refine pv_iconst d_O_isDeliverable_37 (nI 0) (by decide) ?_
    refine pv_zret d_O_isDeliverable_38 (by first | rfl | decide) ?_
    have hx : x_dl σ n r q = false := by rw [x_dl, b2_0.mp h5, Bool.false_and]
    rw [hx] at k
    exact k
  · refine pv_iload_n d_O_isDeliverable_8 rfl rfl ?_
    refine pv_aload_n d_O_isDeliverable_9 rfl rfl ?_
    refine gN_line d_O_isDeliverable_10 ff_O_82 (by first | assumption | omega) ?_
    first | refine pv_icmpN_le 33 (by decide) d_O_isDeliverable_13 (by first | assumption | omega) (by first | assumption | omega) (fun h13 => ?_) (fun h13 => ?_) | refine pv_icmp_le 33 (by decide) d_O_isDeliverable_13 (fun h13 => ?_) (fun h13 => ?_)
    · refine pv_iconst d_O_isDeliverable_33 (nI 1) (by decide) ?_
      refine pv_goto 38 (by decide) d_O_isDeliverable_34 ?_
      refine pv_zret d_O_isDeliverable_38 (by first | rfl | decide) ?_
      have hx : x_dl σ n r q = true := by rw [x_dl, b2_n0.mp h5, decide_eq_true h13, Bool.true_and, Bool.true_or]
      rw [hx] at k
      exact k
    · refine pv_aload_n d_O_isDeliverable_16 rfl rfl ?_
      refine gO_messages d_O_isDeliverable_17 ff_O_28 ?_
      refine gM_safe d_O_isDeliverable_20 ff_O_192 ?_
      refine pv_aload_n d_O_isDeliverable_23 rfl rfl ?_
      refine gR_messageAt d_O_isDeliverable_24 ff_O_166 (by first | assumption | omega) ?_
      refine pv_iload_n d_O_isDeliverable_27 rfl rfl ?_
      refine l_messageAt d_O_isDeliverable_28 (by first | assumption | omega) (by first | assumption | omega) ?_
      refine l_safe d_O_isDeliverable_29 (by first | assumption | omega) ?_
      first | refine pv_ifN_ne 37 (by decide) d_O_isDeliverable_30 (by first | assumption | omega) (fun h30 => ?_) (fun h30 => ?_) | refine pv_if_ne 37 (by decide) d_O_isDeliverable_30 (fun h30 => ?_) (fun h30 => ?_)
      · refine pv_iconst d_O_isDeliverable_37 (nI 0) (by decide) ?_
        refine pv_zret d_O_isDeliverable_38 (by first | rfl | decide) ?_
        have hx : x_dl σ n r q = false := by rw [x_dl, decide_eq_false (Nat.not_le.mpr h13), decide_eq_false h30, Bool.or_self, Bool.and_false]
        rw [hx] at k
        exact k
      · refine pv_iconst d_O_isDeliverable_33 (nI 1) (by decide) ?_
        refine pv_goto 38 (by decide) d_O_isDeliverable_34 ?_
        refine pv_zret d_O_isDeliverable_38 (by first | rfl | decide) ?_
        have hx : x_dl σ n r q = true := by rw [x_dl, b2_n0.mp h5, decide_eq_true h30, Bool.or_true, Bool.and_self]
        rw [hx] at k
        exact k

set_option maxRecDepth 100000 in
set_option maxHeartbeats 4000000 in
theorem k_O_deliverRegular {post : List va_E → Prop} {n r : Nat} (hn : n < 5) (hr : r < 6) (hb : bX σ) (k : post (memX (x_del n r (48 - σ 7 n) σ) ++ ρ)) : pv_M l D ty base b 2 0 0 (fun _ => True) y_O_deliverRegular c_O_deliverRegular 4 none [.ref (0 + 1), .ref (pN n + 1), .ref (pR r + 1)] (memX σ ++ ρ) (pv_QV D ty base b post) := by
  refine pv_enter [some (.ref (0 + 1)), some (.ref (pN n + 1)), some (.ref (pR r + 1)), none] (by decide) (fun _ => rfl) (fun _ => Nat.le_of_ble_eq_true rfl) ?_
  have h7 : σ 7 n < 49 := hb 7 n
  have loop : ∀ (j : Nat) (s : Nat → Nat → Nat), s 7 n + j = 48 → bX s → post (memX (x_del n r j s) ++ ρ) → pv_V l D ty base b c_O_deliverRegular 4 y_O_deliverRegular.cls none y_O_deliverRegular.name (pv_rm 2 0 0) (fun _ => True) (pv_Qf base 0 0 (pv_QV D ty base b post)) 0 0 7 [some (.ref (0 + 1)), some (.ref (pN n + 1)), some (.ref (pR r + 1)), some (.int (nI (s 7 n + 1)))] [] (memX s ++ ρ) := by
    intro j
    induction j with
    | zero =>
      intro s hi hs k
      refine pv_iload_n d_O_deliverRegular_7 rfl rfl ?_
      refine pv_bipush d_O_deliverRegular_8 (nI 48) (by decide) ?_
      first | refine pv_icmpN_gt 47 (by decide) d_O_deliverRegular_10 (by first | assumption | omega) (by first | assumption | omega) (fun h10 => ?_) (fun h10 => ?_) | refine pv_icmp_gt 47 (by decide) d_O_deliverRegular_10 (fun h10 => ?_) (fun h10 => ?_)
      · refine pv_vret d_O_deliverRegular_47 ?_
        exact k
      · omega
    | succ j ih =>
      intro s hi hs k
      unfold x_del at k
      refine pv_iload_n d_O_deliverRegular_7 rfl rfl ?_
      refine pv_bipush d_O_deliverRegular_8 (nI 48) (by decide) ?_
      first | refine pv_icmpN_gt 47 (by decide) d_O_deliverRegular_10 (by first | assumption | omega) (by first | assumption | omega) (fun h10 => ?_) (fun h10 => ?_) | refine pv_icmp_gt 47 (by decide) d_O_deliverRegular_10 (fun h10 => ?_) (fun h10 => ?_)
      · omega
      · refine pv_aload_n d_O_deliverRegular_13 rfl rfl ?_
        refine pv_aload_n d_O_deliverRegular_14 rfl rfl ?_
        refine pv_aload_n d_O_deliverRegular_15 rfl rfl ?_
        refine pv_iload_n d_O_deliverRegular_16 rfl rfl ?_
        refine pv_callV3I d_O_deliverRegular_17 (k_O_isDeliverable hn hr hs (by omega) ?_) sb_O_isDeliverable wm_O_185 gx_O rfl ⟨wi_O_isDeliverable, we_O_isDeliverable⟩ (by decide) (by decide) (Nat.le_of_ble_eq_true rfl) (by decide) (by decide)
        have hbb := b2_lt (x_dl s n r (s 7 n + 1))
        first | refine pv_ifN_ne 24 (by decide) d_O_deliverRegular_20 (by first | assumption | omega) (fun h20 => ?_) (fun h20 => ?_) | refine pv_if_ne 24 (by decide) d_O_deliverRegular_20 (fun h20 => ?_) (fun h20 => ?_)
        · refine pv_aload_n d_O_deliverRegular_24 rfl rfl ?_
          refine pv_iconst d_O_deliverRegular_25 (nI 2) (by decide) ?_
          refine pv_aload_n d_O_deliverRegular_26 rfl rfl ?_
          refine gR_messageAt d_O_deliverRegular_27 ff_O_166 (by first | assumption | omega) ?_
          refine pv_iload_n d_O_deliverRegular_30 rfl rfl ?_
          refine l_messageAt d_O_deliverRegular_31 (by first | assumption | omega) (by first | assumption | omega) ?_
          first | refine pv_imulN d_O_deliverRegular_32 ?_ | refine pv_imul d_O_deliverRegular_32 ?_
          refine pv_callV1V d_O_deliverRegular_33 (k_N_append hn hs ?_) sb_N_append wm_O_189 (gx_N (by first | assumption | omega)) rfl ⟨wi_N_append, we_N_append⟩ (by decide) (by decide) (Nat.le_of_ble_eq_true rfl) (by decide) (by decide)
          refine pv_aload_n d_O_deliverRegular_36 rfl rfl ?_
          refine pv_iload_n d_O_deliverRegular_37 rfl rfl ?_
          refine pN_place d_O_deliverRegular_38 ff_O_182 (by first | assumption | omega) ?_
          refine pv_inc3 d_O_deliverRegular_41 rfl (by decide) ?_
          refine pv_goto 7 (by decide) d_O_deliverRegular_44 ?_
          rw [if_pos (b2_n0.mp h20)] at k
          have hz := ih _ (by rw [sU_same]; omega) (bX_del1 hs hn hr (by omega)) k
          rw [sU_same] at hz
          exact hz
        · refine pv_vret d_O_deliverRegular_23 ?_
          rw [if_neg (by rw [b2_0.mp h20]; decide)] at k
          exact k
  refine pv_aload_n d_O_deliverRegular_0 rfl rfl ?_
  refine gN_place d_O_deliverRegular_1 ff_O_182 (by first | assumption | omega) ?_
  refine pv_iconst d_O_deliverRegular_4 (nI 1) (by decide) ?_
  first | refine pv_iaddN d_O_deliverRegular_5 ?_ | refine pv_iadd d_O_deliverRegular_5 ?_
  refine pv_ist3 d_O_deliverRegular_6 rfl (by decide) ?_
  exact loop (48 - σ 7 n) σ (by omega) hb k

set_option maxRecDepth 100000 in
set_option maxHeartbeats 4000000 in
theorem k_O_deliverInRing {post : List va_E → Prop} {r : Nat} (hr : r < 6) (hb : bX σ) (k : post (memX (x_delR r σ 5) ++ ρ)) : pv_M l D ty base b 3 0 0 (fun _ => True) y_O_deliverInRing c_O_deliverInRing 6 none [.ref (0 + 1), .ref (pR r + 1)] (memX σ ++ ρ) (pv_QV D ty base b post) := by
  refine pv_enter [some (.ref (0 + 1)), some (.ref (pR r + 1)), none, none, none, none] (by decide) (fun _ => rfl) (fun _ => Nat.le_of_ble_eq_true rfl) ?_
  have loop : ∀ (j i : Nat), i + j = 5 → pv_V l D ty base b c_O_deliverInRing 6 y_O_deliverInRing.cls none y_O_deliverInRing.name (pv_rm 3 0 0) (fun _ => True) (pv_Qf base 0 0 (pv_QV D ty base b post)) 0 0 11 [some (.ref (0 + 1)), some (.ref (pR r + 1)), some (.ref (1 + 1)), some (.int (nI (5))), some (.int (nI (i))), none] [] (memX (x_delR r σ i) ++ ρ) := by
    intro j
    induction j with
    | zero =>
      intro i hi
      refine pv_iload d_O_deliverInRing_11 rfl ?_
      refine pv_iload_n d_O_deliverInRing_13 rfl rfl ?_
      first | refine pv_icmpN_ge 45 (by decide) d_O_deliverInRing_14 (by first | assumption | omega) (by first | assumption | omega) (fun h14 => ?_) (fun h14 => ?_) | refine pv_icmp_ge 45 (by decide) d_O_deliverInRing_14 (fun h14 => ?_) (fun h14 => ?_)
      · refine pv_vret d_O_deliverInRing_45 ?_
        obtain rfl : i = 5 := by omega
        exact k
      · omega
    | succ j ih =>
      intro i hi
      refine pv_iload d_O_deliverInRing_11 rfl ?_
      refine pv_iload_n d_O_deliverInRing_13 rfl rfl ?_
      first | refine pv_icmpN_ge 45 (by decide) d_O_deliverInRing_14 (by first | assumption | omega) (by first | assumption | omega) (fun h14 => ?_) (fun h14 => ?_) | refine pv_icmp_ge 45 (by decide) d_O_deliverInRing_14 (fun h14 => ?_) (fun h14 => ?_)
      · omega
      · refine pv_aload_n d_O_deliverInRing_17 rfl rfl ?_
        refine pv_iload d_O_deliverInRing_18 rfl ?_
        refine l_nodes d_O_deliverInRing_20 (by first | assumption | omega) ?_
        refine pv_ast5 d_O_deliverInRing_21 rfl (by decide) ?_
        refine pv_aload d_O_deliverInRing_23 rfl ?_
        refine gN_ring d_O_deliverInRing_25 ff_O_60 (by first | assumption | omega) ?_
        refine pv_aload_n d_O_deliverInRing_28 rfl rfl ?_
        refine pv_acmp_ne (y := some _) 39 (by decide) d_O_deliverInRing_29 (fun h29 => ?_) (fun h29 => ?_)
        · refine pv_inc4 d_O_deliverInRing_39 rfl (by decide) ?_
          refine pv_goto 11 (by decide) d_O_deliverInRing_42 ?_
          have hz := ih (i + 1) (by omega)
          rw [x_delR_s] at hz
          refine pv_fg5 ?_
          rw [if_neg (fun z => h29 (xp_some.mpr z))] at hz
          exact hz
        · refine pv_aload_n d_O_deliverInRing_32 rfl rfl ?_
          refine pv_aload d_O_deliverInRing_33 rfl ?_
          refine pv_aload_n d_O_deliverInRing_35 rfl rfl ?_
          refine pv_callV2V d_O_deliverInRing_36 (k_O_deliverRegular (by first | assumption | omega) hr (bX_delR hb hr i (by omega)) ?_) sb_O_deliverRegular wm_O_179 gx_O rfl ⟨wi_O_deliverRegular, we_O_deliverRegular⟩ (by decide) (by decide) (Nat.le_of_ble_eq_true rfl) (by decide) (by decide)
          refine pv_inc4 d_O_deliverInRing_39 rfl (by decide) ?_
          refine pv_goto 11 (by decide) d_O_deliverInRing_42 ?_
          have hz := ih (i + 1) (by omega)
          rw [x_delR_s] at hz
          refine pv_fg5 ?_
          rw [if_pos (xp_some.mp h29)] at hz
          exact hz
  refine pv_aload_n d_O_deliverInRing_0 rfl rfl ?_
  refine gO_nodes d_O_deliverInRing_1 ff_O_11 ?_
  refine pv_ast2 d_O_deliverInRing_4 rfl (by decide) ?_
  refine pv_aload_n d_O_deliverInRing_5 rfl rfl ?_
  refine n_nodes d_O_deliverInRing_6 ?_
  refine pv_ist3 d_O_deliverInRing_7 rfl (by decide) ?_
  refine pv_iconst d_O_deliverInRing_8 (nI 0) (by decide) ?_
  refine pv_ist4 d_O_deliverInRing_9 rfl (by decide) ?_
  exact loop 5 0 rfl

set_option maxRecDepth 100000 in
set_option maxHeartbeats 4000000 in
theorem k_O_hasStranger {post : Int32 → List va_E → Prop} {n : Nat} (hn : n < 5) (hb : bX σ) (k : post (nI (b2 (x_st σ n 5 0))) (memX σ ++ ρ)) : pv_M l D ty base b 1 0 0 (fun _ => True) y_O_hasStranger c_O_hasStranger 6 (some .boolean) [.ref (0 + 1), .ref (pN n + 1)] (memX σ ++ ρ) (pv_QI D ty base b post) := by
  refine pv_enter [some (.ref (0 + 1)), some (.ref (pN n + 1)), none, none, none, none] (by decide) (fun _ => rfl) (fun _ => Nat.le_of_ble_eq_true rfl) ?_
  have h5n : σ 5 n < 3 := hb 5 n
  have loop : ∀ (j i : Nat), i + j = 5 → post (nI (b2 (x_st σ n j i))) (memX σ ++ ρ) → pv_V l D ty base b c_O_hasStranger 6 y_O_hasStranger.cls (some .boolean) y_O_hasStranger.name (pv_rm 1 0 0) (fun _ => True) (pv_Qf base 0 0 (pv_QI D ty base b post)) 0 0 11 [some (.ref (0 + 1)), some (.ref (pN n + 1)), some (.ref (1 + 1)), some (.int (nI (5))), some (.int (nI (i))), none] [] (memX σ ++ ρ) := by
    intro j
    induction j with
    | zero =>
      intro i hi k
      refine pv_iload d_O_hasStranger_11 rfl ?_
      refine pv_iload_n d_O_hasStranger_13 rfl rfl ?_
      first | refine pv_icmpN_ge 63 (by decide) d_O_hasStranger_14 (by first | assumption | omega) (by first | assumption | omega) (fun h14 => ?_) (fun h14 => ?_) | refine pv_icmp_ge 63 (by decide) d_O_hasStranger_14 (fun h14 => ?_) (fun h14 => ?_)
      · refine pv_iconst d_O_hasStranger_63 (nI 0) (by decide) ?_
        refine pv_zret d_O_hasStranger_64 (by first | rfl | decide) ?_
        exact k
      · omega
    | succ j ih =>
      intro i hi k
      unfold x_st at k
      refine pv_iload d_O_hasStranger_11 rfl ?_
      refine pv_iload_n d_O_hasStranger_13 rfl rfl ?_
      first | refine pv_icmpN_ge 63 (by decide) d_O_hasStranger_14 (by first | assumption | omega) (by first | assumption | omega) (fun h14 => ?_) (fun h14 => ?_) | refine pv_icmp_ge 63 (by decide) d_O_hasStranger_14 (fun h14 => ?_) (fun h14 => ?_)
      · omega
      · refine pv_aload_n d_O_hasStranger_17 rfl rfl ?_
        refine pv_iload d_O_hasStranger_18 rfl ?_
        refine l_nodes d_O_hasStranger_20 (by first | assumption | omega) ?_
        refine pv_ast5 d_O_hasStranger_21 rfl (by decide) ?_
        refine pv_aload d_O_hasStranger_23 rfl ?_
        refine pv_callV0I d_O_hasStranger_25 (k_N_isUp (by first | assumption | omega) ?_) sb_N_isUp wm_O_43 (gx_N (by first | assumption | omega)) rfl ⟨wi_N_isUp, we_N_isUp⟩ (by decide) (by decide) (Nat.le_of_ble_eq_true rfl) (by decide) (by decide)
        have hbb := b2_lt (decide (σ 1 i ≠ 0))
        have h5i : σ 5 i < 3 := hb 5 i
        first | refine pv_ifN_eq 57 (by decide) d_O_hasStranger_28 (by first | assumption | omega) (fun h28 => ?_) (fun h28 => ?_) | refine pv_if_eq 57 (by decide) d_O_hasStranger_28 (fun h28 => ?_) (fun h28 => ?_)
        · refine pv_inc4 d_O_hasStranger_57 rfl (by decide) ?_
          refine pv_goto 11 (by decide) d_O_hasStranger_60 ?_
          refine pv_fg5 ?_
          rw [if_neg (fun z => (of_decide_eq_false (b2_0.mp h28)) z.1)] at k
          exact ih (i + 1) (by omega) k
        · refine pv_aload d_O_hasStranger_31 rfl ?_
          refine gN_area d_O_hasStranger_33 ff_O_96 (by first | assumption | omega) ?_
          refine pv_aload_n d_O_hasStranger_36 rfl rfl ?_
          refine gN_area d_O_hasStranger_37 ff_O_96 (by first | assumption | omega) ?_
          first | refine pv_icmpN_ne 57 (by decide) d_O_hasStranger_40 (by first | assumption | omega) (by first | assumption | omega) (fun h40 => ?_) (fun h40 => ?_) | refine pv_icmp_ne 57 (by decide) d_O_hasStranger_40 (fun h40 => ?_) (fun h40 => ?_)
          · refine pv_inc4 d_O_hasStranger_57 rfl (by decide) ?_
            refine pv_goto 11 (by decide) d_O_hasStranger_60 ?_
            refine pv_fg5 ?_
            rw [if_neg (fun z => h40 z.2.1)] at k
            exact ih (i + 1) (by omega) k
          · refine pv_aload d_O_hasStranger_43 rfl ?_
            refine gN_ring d_O_hasStranger_45 ff_O_60 (by first | assumption | omega) ?_
            refine pv_aload_n d_O_hasStranger_48 rfl rfl ?_
            refine gN_ring d_O_hasStranger_49 ff_O_60 (by first | assumption | omega) ?_
            refine pv_acmp_eq 57 (by decide) d_O_hasStranger_52 (fun h52 => ?_) (fun h52 => ?_)
            · refine pv_inc4 d_O_hasStranger_57 rfl (by decide) ?_
              refine pv_goto 11 (by decide) d_O_hasStranger_60 ?_
              refine pv_fg5 ?_
              rw [if_neg (fun z => z.2.2 (xp_inj h52))] at k
              exact ih (i + 1) (by omega) k
            · refine pv_iconst d_O_hasStranger_55 (nI 1) (by decide) ?_
              refine pv_zret d_O_hasStranger_56 (by first | rfl | decide) ?_
              rw [if_pos ⟨of_decide_eq_true (b2_n0.mp h28), h40, fun q => h52 (by rw [q])⟩] at k
              exact k
  refine pv_aload_n d_O_hasStranger_0 rfl rfl ?_
  refine gO_nodes d_O_hasStranger_1 ff_O_11 ?_
  refine pv_ast2 d_O_hasStranger_4 rfl (by decide) ?_
  refine pv_aload_n d_O_hasStranger_5 rfl rfl ?_
  refine n_nodes d_O_hasStranger_6 ?_
  refine pv_ist3 d_O_hasStranger_7 rfl (by decide) ?_
  refine pv_iconst d_O_hasStranger_8 (nI 0) (by decide) ?_
  refine pv_ist4 d_O_hasStranger_9 rfl (by decide) ?_
  exact loop 5 0 rfl k

set_option maxRecDepth 100000 in
set_option maxHeartbeats 4000000 in
theorem k_O_passToken {post : List va_E → Prop} {n r : Nat} (hn : n < 5) (hr : r < 6) (hb : bX σ) (k : post (memX (x_pass σ n r) ++ ρ)) : pv_M l D ty base b 2 0 0 (fun _ => True) y_O_passToken c_O_passToken 4 none [.ref (0 + 1), .ref (pN n + 1), .ref (pR r + 1)] (memX σ ++ ρ) (pv_QV D ty base b post) := by
  refine pv_enter [some (.ref (0 + 1)), some (.ref (pN n + 1)), some (.ref (pR r + 1)), none] (by decide) (fun _ => rfl) (fun _ => Nat.le_of_ble_eq_true rfl) ?_
  have haf : x_after (σ 11 r) n < 5 := x_af_lt hn 4 0
  refine pv_aload_n d_O_passToken_0 rfl rfl ?_
  refine pv_aload_n d_O_passToken_1 rfl rfl ?_
  refine gN_number d_O_passToken_2 ff_O_196 (by first | assumption | omega) ?_
  refine pv_callV1I d_O_passToken_5 (k_R_memberAfter hr hn hb ?_) sb_R_memberAfter wm_O_197 (gx_R (by first | assumption | omega)) rfl ⟨wi_R_memberAfter, we_R_memberAfter⟩ (by decide) (by decide) (Nat.le_of_ble_eq_true rfl) (by decide) (by decide)
  refine pv_ist3 d_O_passToken_8 rfl (by decide) ?_
  refine pv_aload_n d_O_passToken_9 rfl rfl ?_
  refine pv_aload_n d_O_passToken_10 rfl rfl ?_
  refine pv_aload_n d_O_passToken_11 rfl rfl ?_
  refine gO_nodes d_O_passToken_12 ff_O_11 ?_
  refine pv_iload_n d_O_passToken_15 rfl rfl ?_
  refine l_nodes d_O_passToken_16 (by first | assumption | omega) ?_
  refine pv_callS2I d_O_passToken_17 (k_O_hearEachOther hn haf hb ?_) sb_O_hearEachOther wm_O_172 ws_O_hearEachOther (by decide) (by decide) (Nat.le_of_ble_eq_true rfl) (by decide) (by decide)
  have hbb := b2_lt (x_hear σ n (x_after (σ 11 r) n))
  first | refine pv_ifN_eq 27 (by decide) d_O_passToken_20 (by first | assumption | omega) (fun h20 => ?_) (fun h20 => ?_) | refine pv_if_eq 27 (by decide) d_O_passToken_20 (fun h20 => ?_) (fun h20 => ?_)
  · refine pv_iconst d_O_passToken_27 (-1) (by decide) ?_
    refine pR_tokenAtM d_O_passToken_28 ff_O_64 (by first | assumption | omega) ?_
    refine pv_vret d_O_passToken_31 ?_
    rw [x_pass, if_neg (by rw [b2_0.mp h20]; decide)] at k
    exact k
  · refine pv_iload_n d_O_passToken_23 rfl rfl ?_
    refine pv_goto 28 (by decide) d_O_passToken_24 ?_
    refine pR_tokenAtI d_O_passToken_28 ff_O_64 (by first | assumption | omega) ?_
    refine pv_vret d_O_passToken_31 ?_
    rw [x_pass, if_pos (b2_n0.mp h20)] at k
    exact k

end OWN
end
section
/-! 15.own2: what the rest of the private methods of RotatingTokenGroup do -/
section OWN2
variable {l : Launch} {D : va_G} {ty : Nat → ClassId} {base b : Nat} {σ : Nat → Nat → Nat} {ρ ξ : List va_E}
variable {M : List va_E}
set_option maxRecDepth 100000 in
set_option maxHeartbeats 4000000 in
theorem k_O_deliverTransitional {post : List va_E → Prop} {n r c : Nat} (hn : n < 5) (hr : r < 6) (hc : c < 2 ^ 31) (hb : bX σ) (k : post (memX (x_tr n r c (48 - σ 7 n) (σ 7 n + 1) false σ) ++ ρ)) : pv_M l D ty base b 1 0 0 (fun _ => True) y_O_deliverTransitional c_O_deliverTransitional 7 none [.ref (0 + 1), .ref (pN n + 1), .ref (pR r + 1), .int (nI c)] (memX σ ++ ρ) (pv_QV D ty base b post) := by
  refine pv_enter [some (.ref (0 + 1)), some (.ref (pN n + 1)), some (.ref (pR r + 1)), some (.int (nI c)), none, none, none] (by decide) (fun _ => rfl) (fun _ => Nat.le_of_ble_eq_true rfl) ?_
  have h7 : σ 7 n < 49 := hb 7 n
  have loop : ∀ (j i : Nat) (g : Bool) (s : Nat → Nat → Nat), i + j = 49 → bX s → post (memX (x_tr n r c j i g s) ++ ρ) → pv_V l D ty base b c_O_deliverTransitional 7 y_O_deliverTransitional.cls none y_O_deliverTransitional.name (pv_rm 1 0 0) (fun _ => True) (pv_Qf base 0 0 (pv_QV D ty base b post)) 0 0 11 [some (.ref (0 + 1)), some (.ref (pN n + 1)), some (.ref (pR r + 1)), some (.int (nI (c))), some (.int (nI (b2 g))), some (.int (nI (i))), none] [] (memX s ++ ρ) := by
    intro j
    induction j with
    | zero =>
      intro i g s hi hs k
      refine pv_iload d_O_deliverTransitional_11 rfl ?_
      refine pv_bipush d_O_deliverTransitional_13 (nI 48) (by decide) ?_
      first | refine pv_icmpN_gt 80 (by decide) d_O_deliverTransitional_15 (by first | assumption | omega) (by first | assumption | omega) (fun h15 => ?_) (fun h15 => ?_) | refine pv_icmp_gt 80 (by decide) d_O_deliverTransitional_15 (fun h15 => ?_) (fun h15 => ?_)
      · refine pv_vret d_O_deliverTransitional_80 ?_
        exact k
      · omega
    | succ j ih =>
      intro i g s hi hs k
      unfold x_tr at k
      refine pv_iload d_O_deliverTransitional_11 rfl ?_
      refine pv_bipush d_O_deliverTransitional_13 (nI 48) (by decide) ?_
      first | refine pv_icmpN_gt 80 (by decide) d_O_deliverTransitional_15 (by first | assumption | omega) (by first | assumption | omega) (fun h15 => ?_) (fun h15 => ?_) | refine pv_icmp_gt 80 (by decide) d_O_deliverTransitional_15 (fun h15 => ?_) (fun h15 => ?_)
      · omega
      · refine pv_aload_n d_O_deliverTransitional_18 rfl rfl ?_
        refine pv_iload d_O_deliverTransitional_19 rfl ?_
        refine pv_callV1I d_O_deliverTransitional_21 (k_N_holds hn hs (by omega) ?_) sb_N_holds wm_O_153 (gx_N (by first | assumption | omega)) rfl ⟨wi_N_holds, we_N_holds⟩ (by decide) (by decide) (Nat.le_of_ble_eq_true rfl) (by decide) (by decide)
        have hbb := b2_lt ((s 2 n).testBit i)
        have hbg := b2_lt g
        have hm := msg_lt (q := i) hs hr
        have h60 : s 60 (s (40 + r) i) < 5 := hs 60 _
        first | refine pv_ifN_ne 33 (by decide) d_O_deliverTransitional_24 (by first | assumption | omega) (fun h24 => ?_) (fun h24 => ?_) | refine pv_if_ne 33 (by decide) d_O_deliverTransitional_24 (fun h24 => ?_) (fun h24 => ?_)
        · refine pv_aload_n d_O_deliverTransitional_33 rfl rfl ?_
          refine gR_messageAt d_O_deliverTransitional_34 ff_O_166 (by first | assumption | omega) ?_
          refine pv_iload d_O_deliverTransitional_37 rfl ?_
          refine l_messageAt d_O_deliverTransitional_39 (by first | assumption | omega) (by first | assumption | omega) ?_
          refine pv_ist6 d_O_deliverTransitional_40 rfl (by decide) ?_
          refine pv_iload d_O_deliverTransitional_42 rfl ?_
          first | refine pv_ifN_eq 64 (by decide) d_O_deliverTransitional_44 (by first | assumption | omega) (fun h44 => ?_) (fun h44 => ?_) | refine pv_if_eq 64 (by decide) d_O_deliverTransitional_44 (fun h44 => ?_) (fun h44 => ?_)
          · refine pv_aload_n d_O_deliverTransitional_64 rfl rfl ?_
            refine pv_iconst d_O_deliverTransitional_65 (nI 2) (by decide) ?_
            refine pv_iload d_O_deliverTransitional_66 rfl ?_
            first | refine pv_imulN d_O_deliverTransitional_68 ?_ | refine pv_imul d_O_deliverTransitional_68 ?_
            refine pv_iconst d_O_deliverTransitional_69 (nI 1) (by decide) ?_
            first | refine pv_iaddN d_O_deliverTransitional_70 ?_ | refine pv_iadd d_O_deliverTransitional_70 ?_
            refine pv_callV1V d_O_deliverTransitional_71 (k_N_append hn hs ?_) sb_N_append wm_O_189 (gx_N (by first | assumption | omega)) rfl ⟨wi_N_append, we_N_append⟩ (by decide) (by decide) (Nat.le_of_ble_eq_true rfl) (by decide) (by decide)
            refine pv_inc5 d_O_deliverTransitional_74 rfl (by decide) ?_
            refine pv_goto 11 (by decide) d_O_deliverTransitional_77 ?_
            rw [if_pos (b2_n0.mp h24)] at k
            refine pv_fg6 ?_
            rw [if_pos (Or.inl (b2_0.mp h44))] at k
            exact ih (i + 1) g _ (by omega) (bX_app hs hn (by omega)) k
          · refine pv_iload_n d_O_deliverTransitional_47 rfl rfl ?_
            refine pv_aload_n d_O_deliverTransitional_48 rfl rfl ?_
            refine gO_messages d_O_deliverTransitional_49 ff_O_28 ?_
            refine gM_origins d_O_deliverTransitional_52 ff_O_229 ?_
            refine pv_iload d_O_deliverTransitional_55 rfl ?_
            refine l_origins d_O_deliverTransitional_57 (by first | assumption | omega) ?_
            refine pv_callS2I d_O_deliverTransitional_58 (k_O_isIn (by first | assumption | omega) (by first | assumption | omega) ?_) sb_O_isIn wm_O_212 ws_O_isIn (by decide) (by decide) (Nat.le_of_ble_eq_true rfl) (by decide) (by decide)
            have hbc := b2_lt (c.testBit (s 60 (s (40 + r) i)))
            first | refine pv_ifN_eq 74 (by decide) d_O_deliverTransitional_61 (by first | assumption | omega) (fun h61 => ?_) (fun h61 => ?_) | refine pv_if_eq 74 (by decide) d_O_deliverTransitional_61 (fun h61 => ?_) (fun h61 => ?_)
            · refine pv_inc5 d_O_deliverTransitional_74 rfl (by decide) ?_
              refine pv_goto 11 (by decide) d_O_deliverTransitional_77 ?_
              rw [if_pos (b2_n0.mp h24)] at k
              refine pv_fg6 ?_
              rw [if_neg (by rw [b2_n0.mp h44, b2_0.mp h61]; decide)] at k
              exact ih (i + 1) g _ (by omega) hs k
            · refine pv_aload_n d_O_deliverTransitional_64 rfl rfl ?_
              refine pv_iconst d_O_deliverTransitional_65 (nI 2) (by decide) ?_
              refine pv_iload d_O_deliverTransitional_66 rfl ?_
              first | refine pv_imulN d_O_deliverTransitional_68 ?_ | refine pv_imul d_O_deliverTransitional_68 ?_
              refine pv_iconst d_O_deliverTransitional_69 (nI 1) (by decide) ?_
              first | refine pv_iaddN d_O_deliverTransitional_70 ?_ | refine pv_iadd d_O_deliverTransitional_70 ?_
              refine pv_callV1V d_O_deliverTransitional_71 (k_N_append hn hs ?_) sb_N_append wm_O_189 (gx_N (by first | assumption | omega)) rfl ⟨wi_N_append, we_N_append⟩ (by decide) (by decide) (Nat.le_of_ble_eq_true rfl) (by decide) (by decide)
              refine pv_inc5 d_O_deliverTransitional_74 rfl (by decide) ?_
              refine pv_goto 11 (by decide) d_O_deliverTransitional_77 ?_
              rw [if_pos (b2_n0.mp h24)] at k
              refine pv_fg6 ?_
              rw [if_pos (Or.inr (b2_n0.mp h61))] at k
              exact ih (i + 1) g _ (by omega) (bX_app hs hn (by omega)) k
        · refine pv_iconst d_O_deliverTransitional_27 (nI 1) (by decide) ?_
          refine pv_ist4 d_O_deliverTransitional_28 rfl (by decide) ?_
          refine pv_goto 74 (by decide) d_O_deliverTransitional_30 ?_
          refine pv_inc5 d_O_deliverTransitional_74 rfl (by decide) ?_
          refine pv_goto 11 (by decide) d_O_deliverTransitional_77 ?_
          rw [if_neg (by rw [b2_0.mp h24]; decide)] at k
          exact ih (i + 1) true s (by omega) hs k
  refine pv_iconst d_O_deliverTransitional_0 (nI 0) (by decide) ?_
  refine pv_ist4 d_O_deliverTransitional_1 rfl (by decide) ?_
  refine pv_aload_n d_O_deliverTransitional_3 rfl rfl ?_
  refine gN_place d_O_deliverTransitional_4 ff_O_182 (by first | assumption | omega) ?_
  refine pv_iconst d_O_deliverTransitional_7 (nI 1) (by decide) ?_
  first | refine pv_iaddN d_O_deliverTransitional_8 ?_ | refine pv_iadd d_O_deliverTransitional_8 ?_
  refine pv_ist5 d_O_deliverTransitional_9 rfl (by decide) ?_
  exact loop (48 - σ 7 n) (σ 7 n + 1) false σ (by omega) hb k

set_option maxRecDepth 100000 in
set_option maxHeartbeats 4000000 in
theorem k_O_deliverLeftOver {post : List va_E → Prop} {r c : Nat} (hr : r < 6) (hc : c < 2 ^ 31) (hb : bX σ) (k : post (memX (x_left σ r c) ++ ρ)) : pv_M l D ty base b 3 0 0 (fun _ => True) y_O_deliverLeftOver c_O_deliverLeftOver 7 none [.ref (0 + 1), .ref (pR r + 1), .int (nI c)] (memX σ ++ ρ) (pv_QV D ty base b post) := by
  refine pv_enter [some (.ref (0 + 1)), some (.ref (pR r + 1)), some (.int (nI c)), none, none, none, none] (by decide) (fun _ => rfl) (fun _ => Nat.le_of_ble_eq_true rfl) ?_
  have hh := x_lh_lt (c := c) hb 5
  have hl := x_ll_lt (c := c) hb 5
  have loop2 : ∀ (j i : Nat), i + j = 5 → pv_V l D ty base b c_O_deliverLeftOver 7 y_O_deliverLeftOver.cls none y_O_deliverLeftOver.name (pv_rm 3 0 0) (fun _ => True) (pv_Qf base 0 0 (pv_QV D ty base b post)) 0 0 62 [some (.ref (0 + 1)), some (.ref (pR r + 1)), some (.int (nI (c))), some (.long (lN (x_lh σ c 5))), none, some (.int (nI (x_ll σ c 5))), some (.int (nI (i)))] [] (memX (x_l2 r c (x_lh σ c 5) (x_ll σ c 5) σ i) ++ ρ) := by
    intro j
    induction j with
    | zero =>
      intro i hi
      refine pv_iload d_O_deliverLeftOver_62 rfl ?_
      refine pv_iconst d_O_deliverLeftOver_64 (nI 5) (by decide) ?_
      first | refine pv_icmpN_ge 131 (by decide) d_O_deliverLeftOver_65 (by first | assumption | omega) (by first | assumption | omega) (fun h65 => ?_) (fun h65 => ?_) | refine pv_icmp_ge 131 (by decide) d_O_deliverLeftOver_65 (fun h65 => ?_) (fun h65 => ?_)
      · refine pv_vret d_O_deliverLeftOver_131 ?_
        obtain rfl : i = 5 := by omega
        exact k
      · omega
    | succ j ih =>
      intro i hi
      refine pv_iload d_O_deliverLeftOver_62 rfl ?_
      refine pv_iconst d_O_deliverLeftOver_64 (nI 5) (by decide) ?_
      first | refine pv_icmpN_ge 131 (by decide) d_O_deliverLeftOver_65 (by first | assumption | omega) (by first | assumption | omega) (fun h65 => ?_) (fun h65 => ?_) | refine pv_icmp_ge 131 (by decide) d_O_deliverLeftOver_65 (fun h65 => ?_) (fun h65 => ?_)
      · omega
      · refine pv_iload_n d_O_deliverLeftOver_68 rfl rfl ?_
        refine pv_iload d_O_deliverLeftOver_69 rfl ?_
        refine pv_callS2I d_O_deliverLeftOver_71 (k_O_isIn (by first | assumption | omega) (by first | assumption | omega) ?_) sb_O_isIn wm_O_212 ws_O_isIn (by decide) (by decide) (Nat.le_of_ble_eq_true rfl) (by decide) (by decide)
        have hbb := b2_lt (c.testBit i)
        first | refine pv_ifN_eq 125 (by decide) d_O_deliverLeftOver_74 (by first | assumption | omega) (fun h74 => ?_) (fun h74 => ?_) | refine pv_if_eq 125 (by decide) d_O_deliverLeftOver_74 (fun h74 => ?_) (fun h74 => ?_)
        · refine pv_inc6 d_O_deliverLeftOver_125 rfl (by decide) ?_
          refine pv_goto 62 (by decide) d_O_deliverLeftOver_128 ?_
          have hz := ih (i + 1) (by omega)
          rw [x_l2_s] at hz
          rw [if_neg (by rw [b2_0.mp h74]; decide)] at hz
          exact hz
        · refine pv_aload_n d_O_deliverLeftOver_77 rfl rfl ?_
          refine gO_nodes d_O_deliverLeftOver_78 ff_O_11 ?_
          refine pv_iload d_O_deliverLeftOver_81 rfl ?_
          refine l_nodes d_O_deliverLeftOver_83 (by first | assumption | omega) ?_
          refine pv_lload_n d_O_deliverLeftOver_84 rfl rfl ?_
          refine pN_held d_O_deliverLeftOver_85 ff_O_216 (by first | assumption | omega) ?_
          refine pv_aload_n d_O_deliverLeftOver_88 rfl rfl ?_
          refine gO_nodes d_O_deliverLeftOver_89 ff_O_11 ?_
          refine pv_iload d_O_deliverLeftOver_92 rfl ?_
          refine l_nodes d_O_deliverLeftOver_94 (by first | assumption | omega) ?_
          refine pv_iload d_O_deliverLeftOver_95 rfl ?_
          refine pN_line d_O_deliverLeftOver_97 ff_O_82 (by first | assumption | omega) ?_
          refine pv_aload_n d_O_deliverLeftOver_100 rfl rfl ?_
          refine pv_aload_n d_O_deliverLeftOver_101 rfl rfl ?_
          refine gO_nodes d_O_deliverLeftOver_102 ff_O_11 ?_
          refine pv_iload d_O_deliverLeftOver_105 rfl ?_
          refine l_nodes d_O_deliverLeftOver_107 (by first | assumption | omega) ?_
          refine pv_aload_n d_O_deliverLeftOver_108 rfl rfl ?_
          refine pv_callV2V d_O_deliverLeftOver_109 (k_O_deliverRegular (by first | assumption | omega) hr (bX_sU (bX_sU (bX_l2 hb hr hh hl i (by omega)) hh) hl) ?_) sb_O_deliverRegular wm_O_179 gx_O rfl ⟨wi_O_deliverRegular, we_O_deliverRegular⟩ (by decide) (by decide) (Nat.le_of_ble_eq_true rfl) (by decide) (by decide)
          refine pv_aload_n d_O_deliverLeftOver_112 rfl rfl ?_
          refine pv_aload_n d_O_deliverLeftOver_113 rfl rfl ?_
          refine gO_nodes d_O_deliverLeftOver_114 ff_O_11 ?_
          refine pv_iload d_O_deliverLeftOver_117 rfl ?_
          refine l_nodes d_O_deliverLeftOver_119 (by first | assumption | omega) ?_
          refine pv_aload_n d_O_deliverLeftOver_120 rfl rfl ?_
          refine pv_iload_n d_O_deliverLeftOver_121 rfl rfl ?_
          refine pv_callV3V d_O_deliverLeftOver_122 (k_O_deliverTransitional (by first | assumption | omega) hr hc (bX_l1 (c := c) (bX_l2 hb hr hh hl i (by omega)) (by omega) hr hh hl) ?_) sb_O_deliverTransitional wm_O_225 gx_O rfl ⟨wi_O_deliverTransitional, we_O_deliverTransitional⟩ (by decide) (by decide) (Nat.le_of_ble_eq_true rfl) (by decide) (by decide)
          refine pv_inc6 d_O_deliverLeftOver_125 rfl (by decide) ?_
          refine pv_goto 62 (by decide) d_O_deliverLeftOver_128 ?_
          have hz := ih (i + 1) (by omega)
          rw [x_l2_s] at hz
          rw [if_pos (b2_n0.mp h74)] at hz
          exact hz
  have loop1 : ∀ (j i : Nat), i + j = 5 → pv_V l D ty base b c_O_deliverLeftOver 7 y_O_deliverLeftOver.cls none y_O_deliverLeftOver.name (pv_rm 3 0 0) (fun _ => True) (pv_Qf base 0 0 (pv_QV D ty base b post)) 0 0 8 [some (.ref (0 + 1)), some (.ref (pR r + 1)), some (.int (nI (c))), some (.long (lN (x_lh σ c i))), none, some (.int (nI (x_ll σ c i))), some (.int (nI (i)))] [] (memX σ ++ ρ) := by
    intro j
    induction j with
    | zero =>
      intro i hi
      refine pv_iload d_O_deliverLeftOver_8 rfl ?_
      refine pv_iconst d_O_deliverLeftOver_10 (nI 5) (by decide) ?_
      first | refine pv_icmpN_ge 59 (by decide) d_O_deliverLeftOver_11 (by first | assumption | omega) (by first | assumption | omega) (fun h11 => ?_) (fun h11 => ?_) | refine pv_icmp_ge 59 (by decide) d_O_deliverLeftOver_11 (fun h11 => ?_) (fun h11 => ?_)
      · refine pv_iconst d_O_deliverLeftOver_59 (nI 0) (by decide) ?_
        refine pv_ist6 d_O_deliverLeftOver_60 rfl (by decide) ?_
        obtain rfl : i = 5 := by omega
        exact loop2 5 0 rfl
      · omega
    | succ j ih =>
      intro i hi
      refine pv_iload d_O_deliverLeftOver_8 rfl ?_
      refine pv_iconst d_O_deliverLeftOver_10 (nI 5) (by decide) ?_
      first | refine pv_icmpN_ge 59 (by decide) d_O_deliverLeftOver_11 (by first | assumption | omega) (by first | assumption | omega) (fun h11 => ?_) (fun h11 => ?_) | refine pv_icmp_ge 59 (by decide) d_O_deliverLeftOver_11 (fun h11 => ?_) (fun h11 => ?_)
      · omega
      · refine pv_iload_n d_O_deliverLeftOver_14 rfl rfl ?_
        refine pv_iload d_O_deliverLeftOver_15 rfl ?_
        refine pv_callS2I d_O_deliverLeftOver_17 (k_O_isIn (by first | assumption | omega) (by first | assumption | omega) ?_) sb_O_isIn wm_O_212 ws_O_isIn (by decide) (by decide) (Nat.le_of_ble_eq_true rfl) (by decide) (by decide)
        have hbb := b2_lt (c.testBit i)
        have hli := x_ll_lt (c := c) hb i
        have hl6 : σ 6 i < 49 := hb 6 i
        first | refine pv_ifN_eq 53 (by decide) d_O_deliverLeftOver_20 (by first | assumption | omega) (fun h20 => ?_) (fun h20 => ?_) | refine pv_if_eq 53 (by decide) d_O_deliverLeftOver_20 (fun h20 => ?_) (fun h20 => ?_)
        · refine pv_inc6 d_O_deliverLeftOver_53 rfl (by decide) ?_
          refine pv_goto 8 (by decide) d_O_deliverLeftOver_56 ?_
          have hz := ih (i + 1) (by omega)
          rw [x_lh_s, x_ll_s] at hz
          rw [if_neg (by rw [b2_0.mp h20]; decide), if_neg (by rw [b2_0.mp h20]; decide)] at hz
          exact hz
        · refine pv_lload_n d_O_deliverLeftOver_23 rfl rfl ?_
          refine pv_aload_n d_O_deliverLeftOver_24 rfl rfl ?_
          refine gO_nodes d_O_deliverLeftOver_25 ff_O_11 ?_
          refine pv_iload d_O_deliverLeftOver_28 rfl ?_
          refine l_nodes d_O_deliverLeftOver_30 (by first | assumption | omega) ?_
          refine gN_held d_O_deliverLeftOver_31 ff_O_216 (by first | assumption | omega) ?_
          refine pv_lorN d_O_deliverLeftOver_34 ?_
          refine pv_lst3 d_O_deliverLeftOver_35 rfl (by decide) ?_
          refine pv_iload d_O_deliverLeftOver_36 rfl ?_
          refine pv_aload_n d_O_deliverLeftOver_38 rfl rfl ?_
          refine gO_nodes d_O_deliverLeftOver_39 ff_O_11 ?_
          refine pv_iload d_O_deliverLeftOver_42 rfl ?_
          refine l_nodes d_O_deliverLeftOver_44 (by first | assumption | omega) ?_
          refine gN_line d_O_deliverLeftOver_45 ff_O_82 (by first | assumption | omega) ?_
          refine pv_mmaxN d_O_deliverLeftOver_48 wm_O_219 ws_max wn_Math wc_max (by decide) (by decide) (Nat.le_of_ble_eq_true rfl) (by decide) (by decide) (by first | assumption | omega) (by first | assumption | omega) ?_
          refine pv_ist5 d_O_deliverLeftOver_51 rfl (by decide) ?_
          refine pv_inc6 d_O_deliverLeftOver_53 rfl (by decide) ?_
          refine pv_goto 8 (by decide) d_O_deliverLeftOver_56 ?_
          have hz := ih (i + 1) (by omega)
          rw [x_lh_s, x_ll_s] at hz
          rw [if_pos (b2_n0.mp h20), if_pos (b2_n0.mp h20)] at hz
          exact hz
  refine pv_lconst d_O_deliverLeftOver_0 (lN 0) (by decide) ?_
  refine pv_lst3 d_O_deliverLeftOver_1 rfl (by decide) ?_
  refine pv_iconst d_O_deliverLeftOver_2 (nI 0) (by decide) ?_
  refine pv_ist5 d_O_deliverLeftOver_3 rfl (by decide) ?_
  refine pv_iconst d_O_deliverLeftOver_5 (nI 0) (by decide) ?_
  refine pv_ist6 d_O_deliverLeftOver_6 rfl (by decide) ?_
  exact loop1 5 0 rfl

theorem x_del_ne {n r f j : Nat} (h1 : f ≠ 4) (h2 : f ≠ 30 + n) (h3 : f ≠ 7) : ∀ k (σ : Nat → Nat → Nat), x_del n r k σ f j = σ f j
  | 0, _ => rfl
  | k + 1, σ => by
    unfold x_del
    split
    · rw [x_del_ne h1 h2 h3 k, sU_nef h3, x_app_ne h1 h2]
    · rfl
theorem x_tr_ne {n r c f j : Nat} (h1 : f ≠ 4) (h2 : f ≠ 30 + n) : ∀ k i g (σ : Nat → Nat → Nat), x_tr n r c k i g σ f j = σ f j
  | 0, _, _, _ => rfl
  | k + 1, i, g, σ => by
    unfold x_tr
    split
    · rw [x_tr_ne h1 h2 k]
      split
      · rw [x_app_ne h1 h2]
      · rfl
    · rw [x_tr_ne h1 h2 k]
theorem x_l1_ne {r c h l n f j : Nat} {σ : Nat → Nat → Nat} (h2 : f ≠ 2) (h4 : f ≠ 4) (h6 : f ≠ 6) (h7 : f ≠ 7) (h30 : f ≠ 30 + n) : x_l1 r c h l n σ f j = σ f j := by
  unfold x_l1
  rw [x_del_ne h4 h30 h7, sU_nef h6, sU_nef h2]
theorem x_l2_ne {r c h l f j : Nat} {σ : Nat → Nat → Nat} (h2 : f ≠ 2) (h4 : f ≠ 4) (h6 : f ≠ 6) (h7 : f ≠ 7) (h30 : f < 30 ∨ 35 ≤ f) : ∀ k, k ≤ 5 → x_l2 r c h l σ k f j = σ f j
  | 0, _ => rfl
  | k + 1, hk => by
    rw [x_l2_s]
    split
    · rw [x_tr_ne h4 (by omega), x_l1_ne h2 h4 h6 h7 (by omega), x_l2_ne h2 h4 h6 h7 h30 k (by omega)]
    · exact x_l2_ne h2 h4 h6 h7 h30 k (by omega)
theorem x_f6_ne {mem f j : Nat} {σ : Nat → Nat → Nat} (h2 : f ≠ 2) (h4 : f ≠ 4) (h6 : f ≠ 6) (h7 : f ≠ 7) (h30 : f < 30 ∨ 35 ≤ f) : ∀ k, x_f6 mem σ k f j = σ f j
  | 0 => rfl
  | k + 1 => by
    rw [x_f6_s]
    split
    · unfold x_left
      rw [x_l2_ne h2 h4 h6 h7 h30 5 (by decide), x_f6_ne h2 h4 h6 h7 h30 k]
    · exact x_f6_ne h2 h4 h6 h7 h30 k
set_option maxRecDepth 100000 in
set_option maxHeartbeats 4000000 in
theorem k_O_formAnew {post : List va_E → Prop} {a : Nat} (ha : a < 2 ^ 31) (hb : bX σ) (h0 : σ 0 0 + 1 < 600) (k : post (memX (x_form σ a) ++ ρ)) : pv_M l D ty base b 4 0 0 (fun _ => True) y_O_formAnew c_O_formAnew 8 none [.ref (0 + 1), .int (nI a)] (memX σ ++ ρ) (pv_QV D ty base b post) := by
  refine pv_enter [some (.ref (0 + 1)), some (.int (nI a)), none, none, none, none, none, none] (by decide) (fun _ => rfl) (fun _ => Nat.le_of_ble_eq_true rfl) ?_
  have hm := x_upin_lt (σ := σ) (a := a) 5
  have x00 : x_f6 (x_upin σ a 5) σ 6 0 0 = σ 0 0 := x_f6_ne (by decide) (by decide) (by decide) (by decide) (Or.inl (by decide)) 6
  have loop : ∀ (j i : Nat), i + j = 6 → pv_V l D ty base b c_O_formAnew 8 y_O_formAnew.cls none y_O_formAnew.name (pv_rm 4 0 0) (fun _ => True) (pv_Qf base 0 0 (pv_QV D ty base b post)) 0 0 18 [some (.ref (0 + 1)), some (.int (nI (a))), some (.int (nI (x_upin σ a 5))), some (.ref (17 + 1)), some (.int (nI (6))), some (.int (nI (i))), none, none] [] (memX (x_f6 (x_upin σ a 5) σ i) ++ ρ) := by
    intro j
    induction j with
    | zero =>
      intro i hi
      refine pv_iload d_O_formAnew_18 rfl ?_
      refine pv_iload d_O_formAnew_20 rfl ?_
      first | refine pv_icmpN_ge 60 (by decide) d_O_formAnew_22 (by first | assumption | omega) (by first | assumption | omega) (fun h22 => ?_) (fun h22 => ?_) | refine pv_icmp_ge 60 (by decide) d_O_formAnew_22 (fun h22 => ?_) (fun h22 => ?_)
      · obtain rfl : i = 6 := by omega
        refine pv_aload_n d_O_formAnew_60 rfl rfl ?_
        refine pv_iload_n d_O_formAnew_61 rfl rfl ?_
        refine pv_callV1V d_O_formAnew_62 (k_O_enterNewRing (bX_f6 hb 6 (by decide)) (by rw [x00]; exact h0) (by omega) ?_) sb_O_enterNewRing wm_O_36 gx_O rfl ⟨wi_O_enterNewRing, we_O_enterNewRing⟩ (by decide) (by decide) (Nat.le_of_ble_eq_true rfl) (by decide) (by decide)
        refine pv_vret d_O_formAnew_65 ?_
        exact k
      · omega
    | succ j ih =>
      intro i hi
      refine pv_iload d_O_formAnew_18 rfl ?_
      refine pv_iload d_O_formAnew_20 rfl ?_
      first | refine pv_icmpN_ge 60 (by decide) d_O_formAnew_22 (by first | assumption | omega) (by first | assumption | omega) (fun h22 => ?_) (fun h22 => ?_) | refine pv_icmp_ge 60 (by decide) d_O_formAnew_22 (fun h22 => ?_) (fun h22 => ?_)
      · omega
      · refine pv_aload_n d_O_formAnew_25 rfl rfl ?_
        refine pv_iload d_O_formAnew_26 rfl ?_
        refine l_rings d_O_formAnew_28 (by first | assumption | omega) ?_
        refine pv_ast6 d_O_formAnew_29 rfl (by decide) ?_
        refine pv_aload_n d_O_formAnew_31 rfl rfl ?_
        refine pv_aload d_O_formAnew_32 rfl ?_
        refine pv_callV1I d_O_formAnew_34 (k_O_nodesOf ?_) sb_O_nodesOf wm_O_204 gx_O rfl ⟨wi_O_nodesOf, we_O_nodesOf⟩ (by decide) (by decide) (Nat.le_of_ble_eq_true rfl) (by decide) (by decide)
        refine pv_iload_n d_O_formAnew_37 rfl rfl ?_
        first | refine pv_iandN d_O_formAnew_38 ?_ | refine pv_iand d_O_formAnew_38 ?_
        refine pv_ist7 d_O_formAnew_39 rfl (by decide) ?_
        refine pv_iload d_O_formAnew_41 rfl ?_
        have hbb : x_nodes (x_f6 (x_upin σ a 5) σ i) i 5 &&& x_upin σ a 5 < 2 ^ 31 := Nat.lt_of_le_of_lt Nat.and_le_right (by omega)
        first | refine pv_ifN_eq 54 (by decide) d_O_formAnew_43 (by first | assumption | omega) (fun h43 => ?_) (fun h43 => ?_) | refine pv_if_eq 54 (by decide) d_O_formAnew_43 (fun h43 => ?_) (fun h43 => ?_)
        · refine pv_inc5 d_O_formAnew_54 rfl (by decide) ?_
          refine pv_goto 18 (by decide) d_O_formAnew_57 ?_
          have hz := ih (i + 1) (by omega)
          rw [x_f6_s] at hz
          refine pv_fg6 (pv_fg7 ?_)
          rw [if_neg (fun z => z h43)] at hz
          exact hz
        · refine pv_aload_n d_O_formAnew_46 rfl rfl ?_
          refine pv_aload d_O_formAnew_47 rfl ?_
          refine pv_iload d_O_formAnew_49 rfl ?_
          refine pv_callV2V d_O_formAnew_51 (k_O_deliverLeftOver (by first | assumption | omega) (Nat.lt_of_le_of_lt Nat.and_le_right (by omega)) (bX_f6 hb i (by omega)) ?_) sb_O_deliverLeftOver wm_O_208 gx_O rfl ⟨wi_O_deliverLeftOver, we_O_deliverLeftOver⟩ (by decide) (by decide) (Nat.le_of_ble_eq_true rfl) (by decide) (by decide)
          refine pv_inc5 d_O_formAnew_54 rfl (by decide) ?_
          refine pv_goto 18 (by decide) d_O_formAnew_57 ?_
          have hz := ih (i + 1) (by omega)
          rw [x_f6_s] at hz
          refine pv_fg6 (pv_fg7 ?_)
          rw [if_pos h43] at hz
          exact hz
  refine pv_aload_n d_O_formAnew_0 rfl rfl ?_
  refine pv_iload_n d_O_formAnew_1 rfl rfl ?_
  refine pv_callV1I d_O_formAnew_2 (k_O_upNodesIn ha hb ?_) sb_O_upNodesIn wm_O_201 gx_O rfl ⟨wi_O_upNodesIn, we_O_upNodesIn⟩ (by decide) (by decide) (Nat.le_of_ble_eq_true rfl) (by decide) (by decide)
  refine pv_ist2 d_O_formAnew_5 rfl (by decide) ?_
  refine pv_aload_n d_O_formAnew_6 rfl rfl ?_
  refine gO_rings d_O_formAnew_7 ff_O_20 ?_
  refine pv_ast3 d_O_formAnew_10 rfl (by decide) ?_
  refine pv_aload_n d_O_formAnew_11 rfl rfl ?_
  refine n_rings d_O_formAnew_12 ?_
  refine pv_ist4 d_O_formAnew_13 rfl (by decide) ?_
  refine pv_iconst d_O_formAnew_15 (nI 0) (by decide) ?_
  refine pv_ist5 d_O_formAnew_16 rfl (by decide) ?_
  exact loop 6 0 rfl

set_option maxRecDepth 100000 in
set_option maxHeartbeats 4000000 in
theorem k_O_broadcastRequests {post : Int32 → List va_E → Prop} {n r : Nat} (hn : n < 5) (hr : r < 6) (hb : bX σ) (k : post (nI (x_rq n r σ 48).2) (memX (x_rq n r σ 48).1 ++ ρ)) : pv_M l D ty base b 3 0 0 (fun _ => True) y_O_broadcastRequests c_O_broadcastRequests 5 (some .int) [.ref (0 + 1), .ref (pN n + 1), .ref (pR r + 1)] (memX σ ++ ρ) (pv_QI D ty base b post) := by
  refine pv_enter [some (.ref (0 + 1)), some (.ref (pN n + 1)), some (.ref (pR r + 1)), none, none] (by decide) (fun _ => rfl) (fun _ => Nat.le_of_ble_eq_true rfl) ?_
  have loop : ∀ (j i : Nat), i + j = 48 → pv_V l D ty base b c_O_broadcastRequests 5 y_O_broadcastRequests.cls (some .int) y_O_broadcastRequests.name (pv_rm 3 0 0) (fun _ => True) (pv_Qf base 0 0 (pv_QI D ty base b post)) 0 0 5 [some (.ref (0 + 1)), some (.ref (pN n + 1)), some (.ref (pR r + 1)), some (.int (nI ((x_rq n r σ i).2))), some (.int (nI (i + 1)))] [] (memX (x_rq n r σ i).1 ++ ρ) := by
    intro j
    induction j with
    | zero =>
      intro i hi
      refine pv_iload d_O_broadcastRequests_5 rfl ?_
      refine pv_bipush d_O_broadcastRequests_7 (nI 48) (by decide) ?_
      first | refine pv_icmpN_gt 52 (by decide) d_O_broadcastRequests_9 (by first | assumption | omega) (by first | assumption | omega) (fun h9 => ?_) (fun h9 => ?_) | refine pv_icmp_gt 52 (by decide) d_O_broadcastRequests_9 (fun h9 => ?_) (fun h9 => ?_)
      · refine pv_iload_n d_O_broadcastRequests_52 rfl rfl ?_
        refine pv_iret d_O_broadcastRequests_53 ?_
        obtain rfl : i = 48 := by omega
        exact k
      · omega
    | succ j ih =>
      intro i hi
      refine pv_iload d_O_broadcastRequests_5 rfl ?_
      refine pv_bipush d_O_broadcastRequests_7 (nI 48) (by decide) ?_
      first | refine pv_icmpN_gt 52 (by decide) d_O_broadcastRequests_9 (by first | assumption | omega) (by first | assumption | omega) (fun h9 => ?_) (fun h9 => ?_) | refine pv_icmp_gt 52 (by decide) d_O_broadcastRequests_9 (fun h9 => ?_) (fun h9 => ?_)
      · omega
      · refine pv_aload_n d_O_broadcastRequests_12 rfl rfl ?_
        refine pv_iload d_O_broadcastRequests_13 rfl ?_
        refine pv_callV1I d_O_broadcastRequests_15 (k_R_isRequested hr (bX_rq hb i (by omega)) (by omega) ?_) sb_R_isRequested wm_O_150 (gx_R (by first | assumption | omega)) rfl ⟨wi_R_isRequested, we_R_isRequested⟩ (by decide) (by decide) (Nat.le_of_ble_eq_true rfl) (by decide) (by decide)
        have hb1 := b2_lt (((x_rq n r σ i).1 14 r).testBit (i + 1))
        have hb2 := b2_lt (((x_rq n r σ i).1 2 n).testBit (i + 1))
        first | refine pv_ifN_eq 46 (by decide) d_O_broadcastRequests_18 (by first | assumption | omega) (fun h18 => ?_) (fun h18 => ?_) | refine pv_if_eq 46 (by decide) d_O_broadcastRequests_18 (fun h18 => ?_) (fun h18 => ?_)
        · refine pv_inc4 d_O_broadcastRequests_46 rfl (by decide) ?_
          refine pv_goto 5 (by decide) d_O_broadcastRequests_49 ?_
          have hz := ih (i + 1) (by omega)
          rw [x_rq_s] at hz
          rw [if_neg (fun z => absurd z.1 (by rw [b2_0.mp h18]; decide))] at hz
          exact hz
        · refine pv_aload_n d_O_broadcastRequests_21 rfl rfl ?_
          refine pv_iload d_O_broadcastRequests_22 rfl ?_
          refine pv_callV1I d_O_broadcastRequests_24 (k_N_holds hn (bX_rq hb i (by omega)) (by omega) ?_) sb_N_holds wm_O_153 (gx_N (by first | assumption | omega)) rfl ⟨wi_N_holds, we_N_holds⟩ (by decide) (by decide) (Nat.le_of_ble_eq_true rfl) (by decide) (by decide)
          first | refine pv_ifN_eq 46 (by decide) d_O_broadcastRequests_27 (by first | assumption | omega) (fun h27 => ?_) (fun h27 => ?_) | refine pv_if_eq 46 (by decide) d_O_broadcastRequests_27 (fun h27 => ?_) (fun h27 => ?_)
          · refine pv_inc4 d_O_broadcastRequests_46 rfl (by decide) ?_
            refine pv_goto 5 (by decide) d_O_broadcastRequests_49 ?_
            have hz := ih (i + 1) (by omega)
            rw [x_rq_s] at hz
            rw [if_neg (fun z => absurd z.2 (by rw [b2_0.mp h27]; decide))] at hz
            exact hz
          · refine pv_aload_n d_O_broadcastRequests_30 rfl rfl ?_
            refine pv_iload d_O_broadcastRequests_31 rfl ?_
            refine pv_callV1V d_O_broadcastRequests_33 (k_R_takeOffRequest hr (by omega) ?_) sb_R_takeOffRequest wm_O_156 (gx_R (by first | assumption | omega)) rfl ⟨wi_R_takeOffRequest, we_R_takeOffRequest⟩ (by decide) (by decide) (Nat.le_of_ble_eq_true rfl) (by decide) (by decide)
            refine pv_aload_n d_O_broadcastRequests_36 rfl rfl ?_
            refine pv_aload_n d_O_broadcastRequests_37 rfl rfl ?_
            refine pv_iload d_O_broadcastRequests_38 rfl ?_
            refine pv_callV2V d_O_broadcastRequests_40 (k_O_broadcast hn (bX_offreq (bX_rq hb i (by omega))) (by omega) ?_) sb_O_broadcast wm_O_159 gx_O rfl ⟨wi_O_broadcast, we_O_broadcast⟩ (by decide) (by decide) (Nat.le_of_ble_eq_true rfl) (by decide) (by decide)
            refine pv_inc3 d_O_broadcastRequests_43 rfl (by decide) ?_
            refine pv_inc4 d_O_broadcastRequests_46 rfl (by decide) ?_
            refine pv_goto 5 (by decide) d_O_broadcastRequests_49 ?_
            have hz := ih (i + 1) (by omega)
            rw [x_rq_s] at hz
            rw [if_pos ⟨b2_n0.mp h18, b2_n0.mp h27⟩] at hz
            exact hz
  refine pv_iconst d_O_broadcastRequests_0 (nI 0) (by decide) ?_
  refine pv_ist3 d_O_broadcastRequests_1 rfl (by decide) ?_
  refine pv_iconst d_O_broadcastRequests_2 (nI 1) (by decide) ?_
  refine pv_ist4 d_O_broadcastRequests_3 rfl (by decide) ?_
  exact loop 48 0 rfl

set_option maxRecDepth 100000 in
set_option maxHeartbeats 4000000 in
theorem k_O_broadcastNew {post : Int32 → List va_E → Prop} {n r : Nat} (hn : n < 5) (hr : r < 6) (hb : bX σ) (k : post (nI (x_nw n r 2 σ 0).2) (memX (x_nw n r 2 σ 0).1 ++ ρ)) : pv_M l D ty base b 3 0 0 (fun _ => True) y_O_broadcastNew c_O_broadcastNew 5 (some .int) [.ref (0 + 1), .ref (pN n + 1), .ref (pR r + 1)] (memX σ ++ ρ) (pv_QI D ty base b post) := by
  refine pv_enter [some (.ref (0 + 1)), some (.ref (pN n + 1)), some (.ref (pR r + 1)), none, none] (by decide) (fun _ => rfl) (fun _ => Nat.le_of_ble_eq_true rfl) ?_
  have loop : ∀ (j : Nat) (s : Nat → Nat → Nat) (c : Nat), c + j = 2 → bX s → post (nI (x_nw n r j s c).2) (memX (x_nw n r j s c).1 ++ ρ) → pv_V l D ty base b c_O_broadcastNew 5 y_O_broadcastNew.cls (some .int) y_O_broadcastNew.name (pv_rm 3 0 0) (fun _ => True) (pv_Qf base 0 0 (pv_QI D ty base b post)) 0 0 2 [some (.ref (0 + 1)), some (.ref (pN n + 1)), some (.ref (pR r + 1)), some (.int (nI (c))), none] [] (memX s ++ ρ) := by
    intro j
    induction j with
    | zero =>
      intro s c hi hs k
      refine pv_iload_n d_O_broadcastNew_2 rfl rfl ?_
      refine pv_iconst d_O_broadcastNew_3 (nI 2) (by decide) ?_
      first | refine pv_icmpN_ge 87 (by decide) d_O_broadcastNew_4 (by first | assumption | omega) (by first | assumption | omega) (fun h4 => ?_) (fun h4 => ?_) | refine pv_icmp_ge 87 (by decide) d_O_broadcastNew_4 (fun h4 => ?_) (fun h4 => ?_)
      · refine pv_iload_n d_O_broadcastNew_87 rfl rfl ?_
        refine pv_iret d_O_broadcastNew_88 ?_
        exact k
      · omega
    | succ j ih =>
      intro s c hi hs k
      unfold x_nw at k
      refine pv_iload_n d_O_broadcastNew_2 rfl rfl ?_
      refine pv_iconst d_O_broadcastNew_3 (nI 2) (by decide) ?_
      first | refine pv_icmpN_ge 87 (by decide) d_O_broadcastNew_4 (by first | assumption | omega) (by first | assumption | omega) (fun h4 => ?_) (fun h4 => ?_) | refine pv_icmp_ge 87 (by decide) d_O_broadcastNew_4 (fun h4 => ?_) (fun h4 => ?_)
      · refine pv_iload_n d_O_broadcastNew_87 rfl rfl ?_
        refine pv_iret d_O_broadcastNew_88 ?_
        omega
      · have h3 : s 3 n < 9 := hs 3 n
        have h13 : s 13 r < 49 := hs 13 r
        have hq := q_lt (k := 0) hs hn
        refine pv_aload_n d_O_broadcastNew_7 rfl rfl ?_
        refine gN_queued d_O_broadcastNew_8 ff_O_50 (by first | assumption | omega) ?_
        first | refine pv_ifN_le 87 (by decide) d_O_broadcastNew_11 (by first | assumption | omega) (fun h11 => ?_) (fun h11 => ?_) | refine pv_if_le 87 (by decide) d_O_broadcastNew_11 (fun h11 => ?_) (fun h11 => ?_)
        · refine pv_iload_n d_O_broadcastNew_87 rfl rfl ?_
          refine pv_iret d_O_broadcastNew_88 ?_
          rw [if_neg (fun z => by omega)] at k
          exact k
        · refine pv_aload_n d_O_broadcastNew_14 rfl rfl ?_
          refine gR_last d_O_broadcastNew_15 ff_O_124 (by first | assumption | omega) ?_
          refine pv_bipush d_O_broadcastNew_18 (nI 48) (by decide) ?_
          first | refine pv_icmpN_ge 87 (by decide) d_O_broadcastNew_20 (by first | assumption | omega) (by first | assumption | omega) (fun h20 => ?_) (fun h20 => ?_) | refine pv_icmp_ge 87 (by decide) d_O_broadcastNew_20 (fun h20 => ?_) (fun h20 => ?_)
          · refine pv_iload_n d_O_broadcastNew_87 rfl rfl ?_
            refine pv_iret d_O_broadcastNew_88 ?_
            rw [if_neg (fun z => by omega)] at k
            exact k
          · refine pv_aload_n d_O_broadcastNew_23 rfl rfl ?_
            refine pv_callV0I d_O_broadcastNew_24 (k_N_dequeue hn hs h11 ?_) sb_N_dequeue wm_O_163 (gx_N (by first | assumption | omega)) rfl ⟨wi_N_dequeue, we_N_dequeue⟩ (by decide) (by decide) (Nat.le_of_ble_eq_true rfl) (by decide) (by decide)
            refine pv_ist4 d_O_broadcastNew_27 rfl (by decide) ?_
            refine pv_aload_n d_O_broadcastNew_29 rfl rfl ?_
            refine pv_dup d_O_broadcastNew_30 rfl ?_
            refine gR_last d_O_broadcastNew_31 ff_O_124 (by first | assumption | omega) ?_
            rw [x_deq_ne (by decide) (by omega)]
            refine pv_iconst d_O_broadcastNew_34 (nI 1) (by decide) ?_
            first | refine pv_iaddN d_O_broadcastNew_35 ?_ | refine pv_iadd d_O_broadcastNew_35 ?_
            refine pR_last d_O_broadcastNew_36 ff_O_124 (by first | assumption | omega) ?_
            refine pv_aload_n d_O_broadcastNew_39 rfl rfl ?_
            refine gR_messageAt d_O_broadcastNew_40 ff_O_166 (by first | assumption | omega) ?_
            refine pv_aload_n d_O_broadcastNew_43 rfl rfl ?_
            refine gR_last d_O_broadcastNew_44 ff_O_124 (by first | assumption | omega) ?_
            rw [sU_same]
            refine pv_iload d_O_broadcastNew_47 rfl ?_
            refine s_messageAt d_O_broadcastNew_49 (by first | assumption | omega) (by first | assumption | omega) ?_
            refine pv_aload_n d_O_broadcastNew_50 rfl rfl ?_
            refine gO_messages d_O_broadcastNew_51 ff_O_28 ?_
            refine gM_stamps d_O_broadcastNew_54 ff_O_147 ?_
            refine pv_iload d_O_broadcastNew_57 rfl ?_
            refine pv_bipush d_O_broadcastNew_59 (nI 64) (by decide) ?_
            refine pv_aload_n d_O_broadcastNew_61 rfl rfl ?_
            refine gR_number d_O_broadcastNew_62 ff_O_118 (by first | assumption | omega) ?_
            rw [sU_nef (show (10 : Nat) ≠ 40 + r by omega), sU_nef (show (10 : Nat) ≠ 13 by decide), x_deq_ne (show (10 : Nat) ≠ 3 by decide) (by omega)]
            first | refine pv_imulN d_O_broadcastNew_65 ?_ | refine pv_imul d_O_broadcastNew_65 ?_
            refine pv_aload_n d_O_broadcastNew_66 rfl rfl ?_
            refine gR_last d_O_broadcastNew_67 ff_O_124 (by first | assumption | omega) ?_
            rw [sU_nef (show (13 : Nat) ≠ 40 + r by omega), sU_same]
            first | refine pv_iaddN d_O_broadcastNew_70 ?_ | refine pv_iadd d_O_broadcastNew_70 ?_
            refine s_stamps d_O_broadcastNew_71 (by first | assumption | omega) ?_
            refine pv_aload_n d_O_broadcastNew_72 rfl rfl ?_
            refine pv_aload_n d_O_broadcastNew_73 rfl rfl ?_
            refine pv_aload_n d_O_broadcastNew_74 rfl rfl ?_
            refine gR_last d_O_broadcastNew_75 ff_O_124 (by first | assumption | omega) ?_
            rw [sU_nef (show (13 : Nat) ≠ 62 by decide), sU_nef (show (13 : Nat) ≠ 40 + r by omega), sU_same]
            refine pv_callV2V d_O_broadcastNew_78 (k_O_broadcast hn (bX_nw0 hs hn hr h20) (by omega) ?_) sb_O_broadcast wm_O_159 gx_O rfl ⟨wi_O_broadcast, we_O_broadcast⟩ (by decide) (by decide) (Nat.le_of_ble_eq_true rfl) (by decide) (by decide)
            refine pv_inc3 d_O_broadcastNew_81 rfl (by decide) ?_
            refine pv_goto 2 (by decide) d_O_broadcastNew_84 ?_
            rw [if_pos ⟨h11, h20⟩] at k
            refine pv_fg4 ?_
            exact ih _ (c + 1) (by omega) (bX_nw1 hs hn hr h20) k
  refine pv_iconst d_O_broadcastNew_0 (nI 0) (by decide) ?_
  refine pv_ist3 d_O_broadcastNew_1 rfl (by decide) ?_
  exact loop 2 σ 0 rfl hb k

set_option maxRecDepth 100000 in
set_option maxHeartbeats 4000000 in
theorem k_O_isUpNode_no {post : Int32 → List va_E → Prop} {x : Int32} (h : x < 0 ∨ nI 5 ≤ x) (k : post (nI 0) (memX σ ++ ρ)) : pv_M l D ty base b 1 0 0 (fun _ => True) y_O_isUpNode c_O_isUpNode 2 (some .boolean) [.ref (0 + 1), .int x] (memX σ ++ ρ) (pv_QI D ty base b post) := by
  refine pv_enter [some (.ref (0 + 1)), some (.int x)] (by decide) (fun _ => rfl) (fun _ => Nat.le_of_ble_eq_true rfl) ?_
  refine pv_iload_n d_O_isUpNode_0 rfl rfl ?_
  refine pv_callS1I d_O_isUpNode_1 (k_O_isNode_no h ?_) sb_O_isNode wm_O_39 ws_O_isNode (by decide) (by decide) (Nat.le_of_ble_eq_true rfl) (by decide) (by decide)
  first | refine pv_ifN_eq 23 (by decide) d_O_isUpNode_4 (by first | assumption | omega) (fun h4 => ?_) (fun h4 => ?_) | refine pv_if_eq 23 (by decide) d_O_isUpNode_4 (fun h4 => ?_) (fun h4 => ?_)
  · refine pv_iconst d_O_isUpNode_23 (nI 0) (by decide) ?_
    refine pv_zret d_O_isUpNode_24 (by first | rfl | decide) ?_
    exact k
  · exact absurd rfl h4

set_option maxRecDepth 100000 in
set_option maxHeartbeats 4000000 in
theorem k_O_isUpNode {post : Int32 → List va_E → Prop} {n : Nat} (hn : n < 5) (k : post (nI (b2 (decide (σ 1 n ≠ 0)))) (memX σ ++ ρ)) : pv_M l D ty base b 1 0 0 (fun _ => True) y_O_isUpNode c_O_isUpNode 2 (some .boolean) [.ref (0 + 1), .int (nI n)] (memX σ ++ ρ) (pv_QI D ty base b post) := by
  refine pv_enter [some (.ref (0 + 1)), some (.int (nI n))] (by decide) (fun _ => rfl) (fun _ => Nat.le_of_ble_eq_true rfl) ?_
  refine pv_iload_n d_O_isUpNode_0 rfl rfl ?_
  refine pv_callS1I d_O_isUpNode_1 (k_O_isNode hn ?_) sb_O_isNode wm_O_39 ws_O_isNode (by decide) (by decide) (Nat.le_of_ble_eq_true rfl) (by decide) (by decide)
  first | refine pv_ifN_eq 23 (by decide) d_O_isUpNode_4 (by first | assumption | omega) (fun h4 => ?_) (fun h4 => ?_) | refine pv_if_eq 23 (by decide) d_O_isUpNode_4 (fun h4 => ?_) (fun h4 => ?_)
  · refine pv_iconst d_O_isUpNode_23 (nI 0) (by decide) ?_
    refine pv_zret d_O_isUpNode_24 (by first | rfl | decide) ?_
    exact absurd h4 (by decide)
  · refine pv_aload_n d_O_isUpNode_7 rfl rfl ?_
    refine gO_nodes d_O_isUpNode_8 ff_O_11 ?_
    refine pv_iload_n d_O_isUpNode_11 rfl rfl ?_
    refine l_nodes d_O_isUpNode_12 (by first | assumption | omega) ?_
    refine pv_callV0I d_O_isUpNode_13 (k_N_isUp hn ?_) sb_N_isUp wm_O_43 (gx_N (by first | assumption | omega)) rfl ⟨wi_N_isUp, we_N_isUp⟩ (by decide) (by decide) (Nat.le_of_ble_eq_true rfl) (by decide) (by decide)
    have hbb := b2_lt (decide (σ 1 n ≠ 0))
    first | refine pv_ifN_eq 23 (by decide) d_O_isUpNode_16 (by first | assumption | omega) (fun h16 => ?_) (fun h16 => ?_) | refine pv_if_eq 23 (by decide) d_O_isUpNode_16 (fun h16 => ?_) (fun h16 => ?_)
    · refine pv_iconst d_O_isUpNode_23 (nI 0) (by decide) ?_
      refine pv_zret d_O_isUpNode_24 (by first | rfl | decide) ?_
      rw [b2_0.mp h16] at k
      exact k
    · refine pv_iconst d_O_isUpNode_19 (nI 1) (by decide) ?_
      refine pv_goto 24 (by decide) d_O_isUpNode_20 ?_
      refine pv_zret d_O_isUpNode_24 (by first | rfl | decide) ?_
      rw [b2_n0.mp h16] at k
      exact k

end OWN2
end
section
/-! 16.pure3: what the class's public methods answer and do -/
section PURE3
theorem x_hold_ne {n q f j : Nat} {σ : Nat → Nat → Nat} (h : f ≠ 2) : x_hold σ n q f j = σ f j := sU_nef h
theorem x_recv_ne {n q f j : Nat} {σ : Nat → Nat → Nat} (h : f ≠ 2) (h8 : f ≠ 8) : x_recv σ n q f j = σ f j := by
  unfold x_recv
  split
  · exact sU_nef h8
  · exact x_hold_ne h
theorem x_bc_ne {n q f j : Nat} {σ : Nat → Nat → Nat} (h : f ≠ 2) (h8 : f ≠ 8) : ∀ k, x_bc n q σ k f j = σ f j
  | 0 => rfl
  | k + 1 => by
    rw [x_bc_s]
    split
    · rw [x_recv_ne h h8, x_bc_ne h h8 k]
    · exact x_bc_ne h h8 k
theorem x_bcast_ne {n q f j : Nat} {σ : Nat → Nat → Nat} (h : f ≠ 2) (h8 : f ≠ 8) : x_bcast σ n q f j = σ f j := by
  unfold x_bcast
  rw [x_bc_ne h h8, x_hold_ne h]
theorem x_rq_ne {n r f j : Nat} {σ : Nat → Nat → Nat} (h : f ≠ 2) (h8 : f ≠ 8) (h14 : f ≠ 14) : ∀ k, (x_rq n r σ k).1 f j = σ f j
  | 0 => rfl
  | k + 1 => by
    rw [x_rq_s]
    split
    · show x_bcast _ n (k + 1) f j = _
      rw [x_bcast_ne h h8]
      unfold x_offreq
      rw [sU_nef h14, x_rq_ne h h8 h14 k]
    · exact x_rq_ne h h8 h14 k
theorem x_nw1_ne {n r f j : Nat} {σ : Nat → Nat → Nat} (h : f ≠ 2) (h8 : f ≠ 8) (h3 : f ≠ 3) (h13 : f ≠ 13) (h62 : f ≠ 62) (hq : f ≠ 20 + n) (ha : f ≠ 40 + r) : x_nw1 n r σ f j = σ f j := by
  unfold x_nw1
  rw [x_bcast_ne h h8, sU_nef h62, sU_nef ha, sU_nef h13, x_deq_ne h3 hq]
theorem x_nw_ne {n r f j : Nat} (h : f ≠ 2) (h8 : f ≠ 8) (h3 : f ≠ 3) (h13 : f ≠ 13) (h62 : f ≠ 62) (hq : f ≠ 20 + n) (ha : f ≠ 40 + r) : ∀ k (σ : Nat → Nat → Nat) c, (x_nw n r k σ c).1 f j = σ f j
  | 0, _, _ => rfl
  | k + 1, σ, c => by
    unfold x_nw
    split
    · rw [x_nw_ne h h8 h3 h13 h62 hq ha k, x_nw1_ne h h8 h3 h13 h62 hq ha]
    · rfl
theorem x_nw_le {n r : Nat} : ∀ k (σ : Nat → Nat → Nat) c, (x_nw n r k σ c).2 ≤ c + k
  | 0, _, _ => Nat.le_refl _
  | k + 1, σ, c => by
    unfold x_nw
    split
    · have := x_nw_le (n := n) (r := r) k (x_nw1 n r σ) (c + 1)
      omega
    · show c ≤ _
      omega
theorem x_mark_ne {n r f j : Nat} {σ : Nat → Nat → Nat} (h14 : f ≠ 14) (hk : f ≠ 50 + r) : x_mark σ r n f j = σ f j := by
  unfold x_mark
  rw [x_mk_ne h14, sU_nef hk]
theorem x_delR_ne {r f j : Nat} {σ : Nat → Nat → Nat} (h4 : f ≠ 4) (h7 : f ≠ 7) (h30 : f < 30 ∨ 35 ≤ f) : ∀ k, k ≤ 5 → x_delR r σ k f j = σ f j
  | 0, _ => rfl
  | k + 1, hk => by
    rw [x_delR_s]
    split
    · rw [x_del_ne h4 (by omega) h7, x_delR_ne h4 h7 h30 k (by omega)]
    · exact x_delR_ne h4 h7 h30 k (by omega)
def v_s1 (σ : Nat → Nat → Nat) (n r : Nat) : Nat → Nat → Nat := (x_nw n r 2 (x_rq n r σ 48).1 0).1
def v_s2 (σ : Nat → Nat → Nat) (n r : Nat) : Nat → Nat → Nat := x_mark (v_s1 σ n r) r n
def v_s3 (σ : Nat → Nat → Nat) (n r : Nat) : Nat → Nat → Nat := sU (v_s2 σ n r) 6 n (x_least (v_s2 σ n r) r)
def v_s4 (σ : Nat → Nat → Nat) (n r : Nat) : Nat → Nat → Nat := sU (x_delR r (v_s3 σ n r) 5) 9 n 0
def v_s5 (σ : Nat → Nat → Nat) (n r : Nat) : Nat → Nat → Nat := if x_st (v_s4 σ n r) n 5 0 = true then x_form (v_s4 σ n r) (v_s4 σ n r 5 n) else x_pass (v_s4 σ n r) n r
def v_a (σ : Nat → Nat → Nat) (n r : Nat) : Nat := (x_rq n r σ 48).2 + (x_nw n r 2 (x_rq n r σ 48).1 0).2
theorem bX_s1 {n r : Nat} {σ : Nat → Nat → Nat} (hb : bX σ) (hn : n < 5) (hr : r < 6) : bX (v_s1 σ n r) := bX_nw hn hr 2 _ 0 (bX_rq hb 48 (by decide))
theorem bX_mark {n r : Nat} {σ : Nat → Nat → Nat} (hb : bX σ) (hr : r < 6) : bX (x_mark σ r n) := by
  refine bX_mk (bX_sU hb ?_) _ (hb 13 r)
  rw [Bx_k hr]
  have := x_reach_le (σ := σ) (n := n)
  omega
theorem bX_s2 {n r : Nat} {σ : Nat → Nat → Nat} (hb : bX σ) (hn : n < 5) (hr : r < 6) : bX (v_s2 σ n r) := bX_mark (bX_s1 hb hn hr) hr
theorem bX_s3 {n r : Nat} {σ : Nat → Nat → Nat} (hb : bX σ) (hn : n < 5) (hr : r < 6) : bX (v_s3 σ n r) := bX_sU (bX_s2 hb hn hr) (show x_least _ r < 49 from Nat.lt_succ_of_le (x_ls_le 5))
theorem bX_s4 {n r : Nat} {σ : Nat → Nat → Nat} (hb : bX σ) (hn : n < 5) (hr : r < 6) : bX (v_s4 σ n r) := bX_sU (bX_delR (bX_s3 hb hn hr) hr 5 (by decide)) (by decide)
theorem v_s4_ne {n r f j : Nat} {σ : Nat → Nat → Nat} (hf : f = 0 ∨ f = 1 ∨ f = 5 ∨ f = 10 ∨ f = 11 ∨ f = 12 ∨ f = 15) : v_s4 σ n r f j = σ f j := by
  unfold v_s4 v_s3 v_s2 v_s1
  rw [sU_nef (by omega), x_delR_ne (by omega) (by omega) (by omega) 5 (by decide), sU_nef (by omega), x_mark_ne (by omega) (by omega), x_nw_ne (by omega) (by omega) (by omega) (by omega) (by omega) (by omega) (by omega), x_rq_ne (by omega) (by omega) (by omega)]
/-- the answers and the states behind them -/
def a_send (σ : Nat → Nat → Nat) (n s : Nat) : Int32 × (Nat → Nat → Nat) := if σ 1 n = 0 then (-2, σ) else if 48 ≤ σ 15 0 then (-4, σ) else if 8 ≤ σ 3 n then (-4, σ) else (nI (σ 15 0 + 1), x_enq (x_take σ n s) n (σ 15 0 + 1))
def a_visit (σ : Nat → Nat → Nat) (n : Nat) : Int32 × (Nat → Nat → Nat) := match σ 1 n with
  | 0 => (-2, σ)
  | r + 1 => if σ 12 r = n + 1 then (nI (v_a σ n r), v_s5 σ n r) else (-1, σ)
def a_tick (σ : Nat → Nat → Nat) (n : Nat) : Int32 × (Nat → Nat → Nat) := if σ 1 n = 0 then (-2, σ) else if σ 9 n + 1 < 4 then (nI 0, sU σ 9 n (σ 9 n + 1)) else (nI 1, x_form (sU σ 9 n (σ 9 n + 1)) (σ 5 n))
def a_crash (σ : Nat → Nat → Nat) (n : Nat) : Int32 × (Nat → Nat → Nat) := if σ 1 n = 0 then (nI 0, σ) else (nI 1, x_down σ n)
def a_restart (σ : Nat → Nat → Nat) (n : Nat) : Int32 × (Nat → Nat → Nat) := if σ 1 n = 0 then (nI 1, x_enterNew σ (2 ^ n)) else (nI 0, σ)
def a_drop (σ : Nat → Nat → Nat) (n : Nat) : Int32 × (Nat → Nat → Nat) := match σ 1 n with
  | 0 => (nI 0, σ)
  | r + 1 => if σ 12 r = 0 then (nI 0, σ) else (nI 1, sU σ 12 r 0)
def a_ring (σ : Nat → Nat → Nat) (n : Nat) : Int32 := match σ 1 n with
  | 0 => -2
  | r + 1 => nI (σ 10 r)
def a_members (σ : Nat → Nat → Nat) (n : Nat) : Int32 := match σ 1 n with
  | 0 => -2
  | r + 1 => nI (σ 11 r)
def a_token (σ : Nat → Nat → Nat) (n : Nat) : Int32 := match σ 1 n with
  | 0 => -2
  | r + 1 => if σ 12 r = 0 then -1 else nI (σ 12 r) - 1
def a_last (σ : Nat → Nat → Nat) (n : Nat) : Int32 := match σ 1 n with
  | 0 => -2
  | r + 1 => if σ 12 r = 0 then -1 else nI (σ 13 r)
def w1 (x : Nat) : Nat := x - (x / 2 ^ 1 &&& 6148914691236517205)
def w2 (x : Nat) : Nat := (x &&& 3689348814741910323) + (x / 2 ^ 2 &&& 3689348814741910323)
def w3 (x : Nat) : Nat := x + x / 2 ^ 4 &&& 1085102592571150095
def w4 (k x : Nat) : Nat := x + x / 2 ^ k
def swar (x : Nat) : Nat := w4 32 (w4 16 (w4 8 (w3 (w2 (w1 x))))) &&& 127
def a_requests (σ : Nat → Nat → Nat) (n : Nat) : Int32 := match σ 1 n with
  | 0 => -2
  | r + 1 => if σ 12 r = 0 then -1 else nI (swar (σ 14 r))
def a_reach (σ : Nat → Nat → Nat) (n : Nat) : Int32 := if σ 1 n = 0 then -2 else nI (x_reach σ n)
def a_line (σ : Nat → Nat → Nat) (n : Nat) : Int32 := if σ 1 n = 0 then -2 else nI (σ 6 n)
def a_waiting (σ : Nat → Nat → Nat) (n : Nat) : Int32 := if σ 1 n = 0 then -2 else nI (σ 3 n)
end PURE3
end
section
/-! 17.pub: what the public methods of RotatingTokenGroup do -/
section PUB
section LONGS
variable {l : Launch} {D : va_G} {ty : Nat → ClassId} {base b : Nat} {cc : ByteArray} {nL : Nat} {own : String} {ret : Option FieldType} {nm : String} {R : Room} {Ex : State → Prop} {Qf : List Frame → Array Value → State → State → Prop} {cells slots pc : Nat} {L : List (Option Value)} {st : List Value} {M : List va_E}
theorem pv_lushrN {x y : Nat} (hd : decode cc pc = .ok (.lushr, 1)) (h1 : x < 2 ^ 64) (h2 : y < 64) (k : pv_V l D ty base b cc nL own ret nm R Ex Qf cells slots (pc + 1) L (.long (lN (x / 2 ^ y)) :: st) M) : pv_V l D ty base b cc nL own ret nm R Ex Qf cells slots pc L (.int (nI y) :: .long (lN x) :: st) M := pv_lushr hd (by rw [wb_shr h1 h2]; exact k)
theorem pv_laddN {x y : Nat} (hd : decode cc pc = .ok (.ladd, 1)) (k : pv_V l D ty base b cc nL own ret nm R Ex Qf cells slots (pc + 1) L (.long (lN (x + y)) :: st) M) : pv_V l D ty base b cc nL own ret nm R Ex Qf cells slots pc L (.long (lN y) :: .long (lN x) :: st) M := pv_ladd hd ((lN_add x y).symm ▸ k)
theorem pv_lsubN {x y : Nat} (hd : decode cc pc = .ok (.lsub, 1)) (h : y ≤ x) (k : pv_V l D ty base b cc nL own ret nm R Ex Qf cells slots (pc + 1) L (.long (lN (x - y)) :: st) M) : pv_V l D ty base b cc nL own ret nm R Ex Qf cells slots pc L (.long (lN y) :: .long (lN x) :: st) M := pv_lsub hd (by rw [lN_sub h]; exact k)
end LONGS
variable {l : Launch} {D : va_G} {ty : Nat → ClassId} {base b : Nat} {σ : Nat → Nat → Nat} {ρ ξ : List va_E}
variable {M : List va_E}
theorem w1_le {x : Nat} : x / 2 ^ 1 &&& 6148914691236517205 ≤ x := Nat.le_trans Nat.and_le_left (Nat.div_le_self _ _)
theorem w1_lt {x : Nat} (h : x < 2 ^ 64) : w1 x < 2 ^ 64 := Nat.lt_of_le_of_lt (Nat.sub_le _ _) h
theorem w2_lt {x : Nat} : w2 x < 2 ^ 63 := by
  have h1 : x &&& 3689348814741910323 ≤ 3689348814741910323 := Nat.and_le_right
  have h2 : x / 2 ^ 2 &&& 3689348814741910323 ≤ 3689348814741910323 := Nat.and_le_right
  unfold w2
  omega
theorem w3_lt {x : Nat} : w3 x < 2 ^ 60 + 2 ^ 57 := by
  have h1 : x + x / 2 ^ 4 &&& 1085102592571150095 ≤ 1085102592571150095 := Nat.and_le_right
  unfold w3
  omega
set_option maxRecDepth 100000 in
set_option maxHeartbeats 4000000 in
theorem k_J_bitCount {post : Int32 → List va_E → Prop} {x : Nat} (hx : x < 2 ^ 64) (k : post (nI (swar x)) M) : pv_M l D ty base b 0 0 0 (fun _ => True) y_J_bitCount c_J_bitCount 2 (some .int) [.long (lN x)] (M) (pv_QI D ty base b post) := by
  refine pv_enter [some (.long (lN x)), none] (by decide) (fun _ => rfl) (fun _ => Nat.le_of_ble_eq_true rfl) ?_
  refine pv_lload_n d_J_bitCount_0 rfl rfl ?_
  refine pv_lload_n d_J_bitCount_1 rfl rfl ?_
  refine pv_iconst d_J_bitCount_2 (nI 1) (by decide) ?_
  refine pv_lushrN d_J_bitCount_3 (by first | assumption | omega) (by decide) ?_
  refine pv_ldc2 d_J_bitCount_4 wk_J_314 ?_
  rw [show (6148914691236517205 : Int64) = lN 6148914691236517205 from by decide]
  first | refine pv_landN d_J_bitCount_7 ?_ | refine pv_landC d_J_bitCount_7 ?_
  refine pv_lsubN d_J_bitCount_8 w1_le ?_
  refine pv_lst0 d_J_bitCount_9 rfl (by decide) ?_
  rw [show x - (x / 2 ^ 1 &&& 6148914691236517205) = w1 x from rfl]
  have hq1 := w1_lt hx
  generalize hy1 : w1 x = x1 at hq1 ⊢
  refine pv_lload_n d_J_bitCount_10 rfl rfl ?_
  refine pv_ldc2 d_J_bitCount_11 wk_J_316 ?_
  rw [show (3689348814741910323 : Int64) = lN 3689348814741910323 from by decide]
  first | refine pv_landN d_J_bitCount_14 ?_ | refine pv_landC d_J_bitCount_14 ?_
  refine pv_lload_n d_J_bitCount_15 rfl rfl ?_
  refine pv_iconst d_J_bitCount_16 (nI 2) (by decide) ?_
  refine pv_lushrN d_J_bitCount_17 (by first | assumption | omega) (by decide) ?_
  refine pv_ldc2 d_J_bitCount_18 wk_J_316 ?_
  rw [show (3689348814741910323 : Int64) = lN 3689348814741910323 from by decide]
  first | refine pv_landN d_J_bitCount_21 ?_ | refine pv_landC d_J_bitCount_21 ?_
  refine pv_laddN d_J_bitCount_22 ?_
  refine pv_lst0 d_J_bitCount_23 rfl (by decide) ?_
  rw [show (x1 &&& 3689348814741910323) + (x1 / 2 ^ 2 &&& 3689348814741910323) = w2 x1 from rfl]
  have hq2 := w2_lt (x := x1)
  generalize hy2 : w2 x1 = x2 at hq2 ⊢
  refine pv_lload_n d_J_bitCount_24 rfl rfl ?_
  refine pv_lload_n d_J_bitCount_25 rfl rfl ?_
  refine pv_iconst d_J_bitCount_26 (nI 4) (by decide) ?_
  refine pv_lushrN d_J_bitCount_27 (by first | assumption | omega) (by decide) ?_
  refine pv_laddN d_J_bitCount_28 ?_
  refine pv_ldc2 d_J_bitCount_29 wk_J_318 ?_
  rw [show (1085102592571150095 : Int64) = lN 1085102592571150095 from by decide]
  first | refine pv_landN d_J_bitCount_32 ?_ | refine pv_landC d_J_bitCount_32 ?_
  refine pv_lst0 d_J_bitCount_33 rfl (by decide) ?_
  rw [show (x2 + x2 / 2 ^ 4 &&& 1085102592571150095) = w3 x2 from rfl]
  have hq3 := w3_lt (x := x2)
  generalize hy3 : w3 x2 = x3 at hq3 ⊢
  refine pv_lload_n d_J_bitCount_34 rfl rfl ?_
  refine pv_lload_n d_J_bitCount_35 rfl rfl ?_
  refine pv_bipush d_J_bitCount_36 (nI 8) (by decide) ?_
  refine pv_lushrN d_J_bitCount_38 (by first | assumption | omega) (by decide) ?_
  refine pv_laddN d_J_bitCount_39 ?_
  refine pv_lst0 d_J_bitCount_40 rfl (by decide) ?_
  refine pv_lload_n d_J_bitCount_41 rfl rfl ?_
  refine pv_lload_n d_J_bitCount_42 rfl rfl ?_
  refine pv_bipush d_J_bitCount_43 (nI 16) (by decide) ?_
  refine pv_lushrN d_J_bitCount_45 (by first | assumption | omega) (by decide) ?_
  refine pv_laddN d_J_bitCount_46 ?_
  refine pv_lst0 d_J_bitCount_47 rfl (by decide) ?_
  refine pv_lload_n d_J_bitCount_48 rfl rfl ?_
  refine pv_lload_n d_J_bitCount_49 rfl rfl ?_
  refine pv_bipush d_J_bitCount_50 (nI 32) (by decide) ?_
  refine pv_lushrN d_J_bitCount_52 (by first | assumption | omega) (by decide) ?_
  refine pv_laddN d_J_bitCount_53 ?_
  refine pv_lst0 d_J_bitCount_54 rfl (by decide) ?_
  refine pv_lload_n d_J_bitCount_55 rfl rfl ?_
  refine pv_l2iN d_J_bitCount_56 ?_
  refine pv_bipush d_J_bitCount_57 (nI 127) (by decide) ?_
  first | refine pv_iandN d_J_bitCount_59 ?_ | refine pv_iand d_J_bitCount_59 ?_
  refine pv_iret d_J_bitCount_60 ?_
  subst hy3 hy2 hy1
  exact k

set_option maxRecDepth 100000 in
set_option maxHeartbeats 4000000 in
theorem k_O_ring_no {post : Int32 → List va_E → Prop} {x : Int32} (h : x < 0 ∨ nI 5 ≤ x) (k : post (-3) (memX σ ++ ρ)) : pv_M l D ty base b 1 0 0 (fun _ => True) y_O_ring c_O_ring 3 (some .int) [.ref (0 + 1), .int x] (memX σ ++ ρ) (pv_QI D ty base b post) := by
  refine pv_enter [some (.ref (0 + 1)), some (.int x), none] (by decide) (fun _ => rfl) (fun _ => Nat.le_of_ble_eq_true rfl) ?_
  refine pv_iload_n d_O_ring_0 rfl rfl ?_
  refine pv_callS1I d_O_ring_1 (k_O_isNode_no h ?_) sb_O_isNode wm_O_39 ws_O_isNode (by decide) (by decide) (Nat.le_of_ble_eq_true rfl) (by decide) (by decide)
  first | refine pv_ifN_ne 10 (by decide) d_O_ring_4 (by first | assumption | omega) (fun h4 => ?_) (fun h4 => ?_) | refine pv_if_ne 10 (by decide) d_O_ring_4 (fun h4 => ?_) (fun h4 => ?_)
  · exact absurd h4 (by decide)
  · refine pv_bipush d_O_ring_7 (-3) (by decide) ?_
    refine pv_iret d_O_ring_9 ?_
    exact k

set_option maxRecDepth 100000 in
set_option maxHeartbeats 4000000 in
theorem k_O_ring {post : Int32 → List va_E → Prop} {n : Nat} (hn : n < 5) (hb : bX σ) (k : post (a_ring σ n) (memX σ ++ ρ)) : pv_M l D ty base b 1 0 0 (fun _ => True) y_O_ring c_O_ring 3 (some .int) [.ref (0 + 1), .int (nI n)] (memX σ ++ ρ) (pv_QI D ty base b post) := by
  refine pv_enter [some (.ref (0 + 1)), some (.int (nI n)), none] (by decide) (fun _ => rfl) (fun _ => Nat.le_of_ble_eq_true rfl) ?_
  refine pv_iload_n d_O_ring_0 rfl rfl ?_
  refine pv_callS1I d_O_ring_1 (k_O_isNode hn ?_) sb_O_isNode wm_O_39 ws_O_isNode (by decide) (by decide) (Nat.le_of_ble_eq_true rfl) (by decide) (by decide)
  first | refine pv_ifN_ne 10 (by decide) d_O_ring_4 (by first | assumption | omega) (fun h4 => ?_) (fun h4 => ?_) | refine pv_if_ne 10 (by decide) d_O_ring_4 (fun h4 => ?_) (fun h4 => ?_)
  · refine pv_aload_n d_O_ring_10 rfl rfl ?_
    have hb1 : σ 1 n < 7 := hb 1 n
    refine gO_nodes d_O_ring_11 ff_O_11 ?_
    refine pv_iload_n d_O_ring_14 rfl rfl ?_
    refine l_nodes d_O_ring_15 (by first | assumption | omega) ?_
    refine gN_ring d_O_ring_16 ff_O_60 (by first | assumption | omega) ?_
    refine pv_splitX (fun hnull => ?_) (fun rr hring => ?_)
    · refine pv_a0st2 d_O_ring_19 rfl (by decide) ?_
      refine pv_a0load_n d_O_ring_20 rfl rfl ?_
      refine pv_ifnonnullN d_O_ring_21 ?_
      refine pv_bipush d_O_ring_24 (-2) (by decide) ?_
      refine pv_goto 33 (by decide) d_O_ring_26 ?_
      refine pv_iret d_O_ring_33 ?_
      rw [a_ring, hnull] at k
      exact k
    · refine pv_ast2 d_O_ring_19 rfl (by decide) ?_
      refine pv_aload_n d_O_ring_20 rfl rfl ?_
      refine pv_ifnonnull 29 (by decide) d_O_ring_21 ?_
      refine pv_aload_n d_O_ring_29 rfl rfl ?_
      refine gR_number d_O_ring_30 ff_O_118 (by first | assumption | omega) ?_
      refine pv_iret d_O_ring_33 ?_
      rw [a_ring, hring] at k
      exact k
  · refine pv_bipush d_O_ring_7 (-3) (by decide) ?_
    refine pv_iret d_O_ring_9 ?_
    exact absurd h4 (by decide)

set_option maxRecDepth 100000 in
set_option maxHeartbeats 4000000 in
theorem k_O_members_no {post : Int32 → List va_E → Prop} {x : Int32} (h : x < 0 ∨ nI 5 ≤ x) (k : post (-3) (memX σ ++ ρ)) : pv_M l D ty base b 1 0 0 (fun _ => True) y_O_members c_O_members 3 (some .int) [.ref (0 + 1), .int x] (memX σ ++ ρ) (pv_QI D ty base b post) := by
  refine pv_enter [some (.ref (0 + 1)), some (.int x), none] (by decide) (fun _ => rfl) (fun _ => Nat.le_of_ble_eq_true rfl) ?_
  refine pv_iload_n d_O_members_0 rfl rfl ?_
  refine pv_callS1I d_O_members_1 (k_O_isNode_no h ?_) sb_O_isNode wm_O_39 ws_O_isNode (by decide) (by decide) (Nat.le_of_ble_eq_true rfl) (by decide) (by decide)
  first | refine pv_ifN_ne 10 (by decide) d_O_members_4 (by first | assumption | omega) (fun h4 => ?_) (fun h4 => ?_) | refine pv_if_ne 10 (by decide) d_O_members_4 (fun h4 => ?_) (fun h4 => ?_)
  · exact absurd h4 (by decide)
  · refine pv_bipush d_O_members_7 (-3) (by decide) ?_
    refine pv_iret d_O_members_9 ?_
    exact k

set_option maxRecDepth 100000 in
set_option maxHeartbeats 4000000 in
theorem k_O_members {post : Int32 → List va_E → Prop} {n : Nat} (hn : n < 5) (hb : bX σ) (k : post (a_members σ n) (memX σ ++ ρ)) : pv_M l D ty base b 1 0 0 (fun _ => True) y_O_members c_O_members 3 (some .int) [.ref (0 + 1), .int (nI n)] (memX σ ++ ρ) (pv_QI D ty base b post) := by
  refine pv_enter [some (.ref (0 + 1)), some (.int (nI n)), none] (by decide) (fun _ => rfl) (fun _ => Nat.le_of_ble_eq_true rfl) ?_
  refine pv_iload_n d_O_members_0 rfl rfl ?_
  refine pv_callS1I d_O_members_1 (k_O_isNode hn ?_) sb_O_isNode wm_O_39 ws_O_isNode (by decide) (by decide) (Nat.le_of_ble_eq_true rfl) (by decide) (by decide)
  first | refine pv_ifN_ne 10 (by decide) d_O_members_4 (by first | assumption | omega) (fun h4 => ?_) (fun h4 => ?_) | refine pv_if_ne 10 (by decide) d_O_members_4 (fun h4 => ?_) (fun h4 => ?_)
  · refine pv_aload_n d_O_members_10 rfl rfl ?_
    have hb1 : σ 1 n < 7 := hb 1 n
    refine gO_nodes d_O_members_11 ff_O_11 ?_
    refine pv_iload_n d_O_members_14 rfl rfl ?_
    refine l_nodes d_O_members_15 (by first | assumption | omega) ?_
    refine gN_ring d_O_members_16 ff_O_60 (by first | assumption | omega) ?_
    refine pv_splitX (fun hnull => ?_) (fun rr hring => ?_)
    · refine pv_a0st2 d_O_members_19 rfl (by decide) ?_
      refine pv_a0load_n d_O_members_20 rfl rfl ?_
      refine pv_ifnonnullN d_O_members_21 ?_
      refine pv_bipush d_O_members_24 (-2) (by decide) ?_
      refine pv_goto 33 (by decide) d_O_members_26 ?_
      refine pv_iret d_O_members_33 ?_
      rw [a_members, hnull] at k
      exact k
    · refine pv_ast2 d_O_members_19 rfl (by decide) ?_
      refine pv_aload_n d_O_members_20 rfl rfl ?_
      refine pv_ifnonnull 29 (by decide) d_O_members_21 ?_
      refine pv_aload_n d_O_members_29 rfl rfl ?_
      refine gR_members d_O_members_30 ff_O_121 (by first | assumption | omega) ?_
      refine pv_iret d_O_members_33 ?_
      rw [a_members, hring] at k
      exact k
  · refine pv_bipush d_O_members_7 (-3) (by decide) ?_
    refine pv_iret d_O_members_9 ?_
    exact absurd h4 (by decide)

set_option maxRecDepth 100000 in
set_option maxHeartbeats 4000000 in
theorem k_O_token_no {post : Int32 → List va_E → Prop} {x : Int32} (h : x < 0 ∨ nI 5 ≤ x) (k : post (-3) (memX σ ++ ρ)) : pv_M l D ty base b 1 0 0 (fun _ => True) y_O_token c_O_token 3 (some .int) [.ref (0 + 1), .int x] (memX σ ++ ρ) (pv_QI D ty base b post) := by
  refine pv_enter [some (.ref (0 + 1)), some (.int x), none] (by decide) (fun _ => rfl) (fun _ => Nat.le_of_ble_eq_true rfl) ?_
  refine pv_iload_n d_O_token_0 rfl rfl ?_
  refine pv_callS1I d_O_token_1 (k_O_isNode_no h ?_) sb_O_isNode wm_O_39 ws_O_isNode (by decide) (by decide) (Nat.le_of_ble_eq_true rfl) (by decide) (by decide)
  first | refine pv_ifN_ne 10 (by decide) d_O_token_4 (by first | assumption | omega) (fun h4 => ?_) (fun h4 => ?_) | refine pv_if_ne 10 (by decide) d_O_token_4 (fun h4 => ?_) (fun h4 => ?_)
  · exact absurd h4 (by decide)
  · refine pv_bipush d_O_token_7 (-3) (by decide) ?_
    refine pv_iret d_O_token_9 ?_
    exact k

set_option maxRecDepth 100000 in
set_option maxHeartbeats 4000000 in
theorem k_O_token {post : Int32 → List va_E → Prop} {n : Nat} (hn : n < 5) (hb : bX σ) (k : post (a_token σ n) (memX σ ++ ρ)) : pv_M l D ty base b 1 0 0 (fun _ => True) y_O_token c_O_token 3 (some .int) [.ref (0 + 1), .int (nI n)] (memX σ ++ ρ) (pv_QI D ty base b post) := by
  refine pv_enter [some (.ref (0 + 1)), some (.int (nI n)), none] (by decide) (fun _ => rfl) (fun _ => Nat.le_of_ble_eq_true rfl) ?_
  refine pv_iload_n d_O_token_0 rfl rfl ?_
  refine pv_callS1I d_O_token_1 (k_O_isNode hn ?_) sb_O_isNode wm_O_39 ws_O_isNode (by decide) (by decide) (Nat.le_of_ble_eq_true rfl) (by decide) (by decide)
  first | refine pv_ifN_ne 10 (by decide) d_O_token_4 (by first | assumption | omega) (fun h4 => ?_) (fun h4 => ?_) | refine pv_if_ne 10 (by decide) d_O_token_4 (fun h4 => ?_) (fun h4 => ?_)
  · refine pv_aload_n d_O_token_10 rfl rfl ?_
    have hb1 : σ 1 n < 7 := hb 1 n
    refine gO_nodes d_O_token_11 ff_O_11 ?_
    refine pv_iload_n d_O_token_14 rfl rfl ?_
    refine l_nodes d_O_token_15 (by first | assumption | omega) ?_
    refine gN_ring d_O_token_16 ff_O_60 (by first | assumption | omega) ?_
    refine pv_splitX (fun hnull => ?_) (fun rr hring => ?_)
    · refine pv_a0st2 d_O_token_19 rfl (by decide) ?_
      refine pv_a0load_n d_O_token_20 rfl rfl ?_
      refine pv_ifnonnullN d_O_token_21 ?_
      refine pv_bipush d_O_token_24 (-2) (by decide) ?_
      refine pv_iret d_O_token_26 ?_
      simp only [a_token, hnull] at k
      exact k
    · refine pv_ast2 d_O_token_19 rfl (by decide) ?_
      refine pv_aload_n d_O_token_20 rfl rfl ?_
      refine pv_ifnonnull 27 (by decide) d_O_token_21 ?_
      refine pv_aload_n d_O_token_27 rfl rfl ?_
      refine pv_callV0I d_O_token_28 (k_R_isTokenLost (by first | assumption | omega) hb ?_) sb_R_isTokenLost wm_O_115 (gx_R (by first | assumption | omega)) rfl ⟨wi_R_isTokenLost, we_R_isTokenLost⟩ (by decide) (by decide) (Nat.le_of_ble_eq_true rfl) (by decide) (by decide)
      have hbb := b2_lt (decide (σ 12 rr = 0))
      first | refine pv_ifN_eq 38 (by decide) d_O_token_31 (by first | assumption | omega) (fun h31 => ?_) (fun h31 => ?_) | refine pv_if_eq 38 (by decide) d_O_token_31 (fun h31 => ?_) (fun h31 => ?_)
      · refine pv_aload_n d_O_token_38 rfl rfl ?_
        refine gR_tokenAt d_O_token_39 ff_O_64 (by first | assumption | omega) ?_
        refine pv_iret d_O_token_42 ?_
        simp only [a_token, hring, if_neg (of_decide_eq_false (b2_0.mp h31))] at k
        exact k
      · refine pv_iconst d_O_token_34 (-1) (by decide) ?_
        refine pv_goto 42 (by decide) d_O_token_35 ?_
        refine pv_iret d_O_token_42 ?_
        simp only [a_token, hring, if_pos (of_decide_eq_true (b2_n0.mp h31))] at k
        exact k
  · refine pv_bipush d_O_token_7 (-3) (by decide) ?_
    refine pv_iret d_O_token_9 ?_
    exact absurd h4 (by decide)

set_option maxRecDepth 100000 in
set_option maxHeartbeats 4000000 in
theorem k_O_last_no {post : Int32 → List va_E → Prop} {x : Int32} (h : x < 0 ∨ nI 5 ≤ x) (k : post (-3) (memX σ ++ ρ)) : pv_M l D ty base b 1 0 0 (fun _ => True) y_O_last c_O_last 3 (some .int) [.ref (0 + 1), .int x] (memX σ ++ ρ) (pv_QI D ty base b post) := by
  refine pv_enter [some (.ref (0 + 1)), some (.int x), none] (by decide) (fun _ => rfl) (fun _ => Nat.le_of_ble_eq_true rfl) ?_
  refine pv_iload_n d_O_last_0 rfl rfl ?_
  refine pv_callS1I d_O_last_1 (k_O_isNode_no h ?_) sb_O_isNode wm_O_39 ws_O_isNode (by decide) (by decide) (Nat.le_of_ble_eq_true rfl) (by decide) (by decide)
  first | refine pv_ifN_ne 10 (by decide) d_O_last_4 (by first | assumption | omega) (fun h4 => ?_) (fun h4 => ?_) | refine pv_if_ne 10 (by decide) d_O_last_4 (fun h4 => ?_) (fun h4 => ?_)
  · exact absurd h4 (by decide)
  · refine pv_bipush d_O_last_7 (-3) (by decide) ?_
    refine pv_iret d_O_last_9 ?_
    exact k

set_option maxRecDepth 100000 in
set_option maxHeartbeats 4000000 in
theorem k_O_last {post : Int32 → List va_E → Prop} {n : Nat} (hn : n < 5) (hb : bX σ) (k : post (a_last σ n) (memX σ ++ ρ)) : pv_M l D ty base b 1 0 0 (fun _ => True) y_O_last c_O_last 3 (some .int) [.ref (0 + 1), .int (nI n)] (memX σ ++ ρ) (pv_QI D ty base b post) := by
  refine pv_enter [some (.ref (0 + 1)), some (.int (nI n)), none] (by decide) (fun _ => rfl) (fun _ => Nat.le_of_ble_eq_true rfl) ?_
  refine pv_iload_n d_O_last_0 rfl rfl ?_
  refine pv_callS1I d_O_last_1 (k_O_isNode hn ?_) sb_O_isNode wm_O_39 ws_O_isNode (by decide) (by decide) (Nat.le_of_ble_eq_true rfl) (by decide) (by decide)
  first | refine pv_ifN_ne 10 (by decide) d_O_last_4 (by first | assumption | omega) (fun h4 => ?_) (fun h4 => ?_) | refine pv_if_ne 10 (by decide) d_O_last_4 (fun h4 => ?_) (fun h4 => ?_)
  · refine pv_aload_n d_O_last_10 rfl rfl ?_
    have hb1 : σ 1 n < 7 := hb 1 n
    refine gO_nodes d_O_last_11 ff_O_11 ?_
    refine pv_iload_n d_O_last_14 rfl rfl ?_
    refine l_nodes d_O_last_15 (by first | assumption | omega) ?_
    refine gN_ring d_O_last_16 ff_O_60 (by first | assumption | omega) ?_
    refine pv_splitX (fun hnull => ?_) (fun rr hring => ?_)
    · refine pv_a0st2 d_O_last_19 rfl (by decide) ?_
      refine pv_a0load_n d_O_last_20 rfl rfl ?_
      refine pv_ifnonnullN d_O_last_21 ?_
      refine pv_bipush d_O_last_24 (-2) (by decide) ?_
      refine pv_iret d_O_last_26 ?_
      simp only [a_last, hnull] at k
      exact k
    · refine pv_ast2 d_O_last_19 rfl (by decide) ?_
      refine pv_aload_n d_O_last_20 rfl rfl ?_
      refine pv_ifnonnull 27 (by decide) d_O_last_21 ?_
      refine pv_aload_n d_O_last_27 rfl rfl ?_
      refine pv_callV0I d_O_last_28 (k_R_isTokenLost (by first | assumption | omega) hb ?_) sb_R_isTokenLost wm_O_115 (gx_R (by first | assumption | omega)) rfl ⟨wi_R_isTokenLost, we_R_isTokenLost⟩ (by decide) (by decide) (Nat.le_of_ble_eq_true rfl) (by decide) (by decide)
      have hbb := b2_lt (decide (σ 12 rr = 0))
      first | refine pv_ifN_eq 38 (by decide) d_O_last_31 (by first | assumption | omega) (fun h31 => ?_) (fun h31 => ?_) | refine pv_if_eq 38 (by decide) d_O_last_31 (fun h31 => ?_) (fun h31 => ?_)
      · refine pv_aload_n d_O_last_38 rfl rfl ?_
        refine gR_last d_O_last_39 ff_O_124 (by first | assumption | omega) ?_
        refine pv_iret d_O_last_42 ?_
        simp only [a_last, hring, if_neg (of_decide_eq_false (b2_0.mp h31))] at k
        exact k
      · refine pv_iconst d_O_last_34 (-1) (by decide) ?_
        refine pv_goto 42 (by decide) d_O_last_35 ?_
        refine pv_iret d_O_last_42 ?_
        simp only [a_last, hring, if_pos (of_decide_eq_true (b2_n0.mp h31))] at k
        exact k
  · refine pv_bipush d_O_last_7 (-3) (by decide) ?_
    refine pv_iret d_O_last_9 ?_
    exact absurd h4 (by decide)

set_option maxRecDepth 100000 in
set_option maxHeartbeats 4000000 in
theorem k_O_requests_no {post : Int32 → List va_E → Prop} {x : Int32} (h : x < 0 ∨ nI 5 ≤ x) (k : post (-3) (memX σ ++ ρ)) : pv_M l D ty base b 1 0 0 (fun _ => True) y_O_requests c_O_requests 3 (some .int) [.ref (0 + 1), .int x] (memX σ ++ ρ) (pv_QI D ty base b post) := by
  refine pv_enter [some (.ref (0 + 1)), some (.int x), none] (by decide) (fun _ => rfl) (fun _ => Nat.le_of_ble_eq_true rfl) ?_
  refine pv_iload_n d_O_requests_0 rfl rfl ?_
  refine pv_callS1I d_O_requests_1 (k_O_isNode_no h ?_) sb_O_isNode wm_O_39 ws_O_isNode (by decide) (by decide) (Nat.le_of_ble_eq_true rfl) (by decide) (by decide)
  first | refine pv_ifN_ne 10 (by decide) d_O_requests_4 (by first | assumption | omega) (fun h4 => ?_) (fun h4 => ?_) | refine pv_if_ne 10 (by decide) d_O_requests_4 (fun h4 => ?_) (fun h4 => ?_)
  · exact absurd h4 (by decide)
  · refine pv_bipush d_O_requests_7 (-3) (by decide) ?_
    refine pv_iret d_O_requests_9 ?_
    exact k

set_option maxRecDepth 100000 in
set_option maxHeartbeats 4000000 in
theorem k_O_requests {post : Int32 → List va_E → Prop} {n : Nat} (hn : n < 5) (hb : bX σ) (k : post (a_requests σ n) (memX σ ++ ρ)) : pv_M l D ty base b 1 0 0 (fun _ => True) y_O_requests c_O_requests 3 (some .int) [.ref (0 + 1), .int (nI n)] (memX σ ++ ρ) (pv_QI D ty base b post) := by
  refine pv_enter [some (.ref (0 + 1)), some (.int (nI n)), none] (by decide) (fun _ => rfl) (fun _ => Nat.le_of_ble_eq_true rfl) ?_
  refine pv_iload_n d_O_requests_0 rfl rfl ?_
  refine pv_callS1I d_O_requests_1 (k_O_isNode hn ?_) sb_O_isNode wm_O_39 ws_O_isNode (by decide) (by decide) (Nat.le_of_ble_eq_true rfl) (by decide) (by decide)
  first | refine pv_ifN_ne 10 (by decide) d_O_requests_4 (by first | assumption | omega) (fun h4 => ?_) (fun h4 => ?_) | refine pv_if_ne 10 (by decide) d_O_requests_4 (fun h4 => ?_) (fun h4 => ?_)
  · refine pv_aload_n d_O_requests_10 rfl rfl ?_
    have hb1 : σ 1 n < 7 := hb 1 n
    refine gO_nodes d_O_requests_11 ff_O_11 ?_
    refine pv_iload_n d_O_requests_14 rfl rfl ?_
    refine l_nodes d_O_requests_15 (by first | assumption | omega) ?_
    refine gN_ring d_O_requests_16 ff_O_60 (by first | assumption | omega) ?_
    refine pv_splitX (fun hnull => ?_) (fun rr hring => ?_)
    · refine pv_a0st2 d_O_requests_19 rfl (by decide) ?_
      refine pv_a0load_n d_O_requests_20 rfl rfl ?_
      refine pv_ifnonnullN d_O_requests_21 ?_
      refine pv_bipush d_O_requests_24 (-2) (by decide) ?_
      refine pv_iret d_O_requests_26 ?_
      simp only [a_requests, hnull] at k
      exact k
    · refine pv_ast2 d_O_requests_19 rfl (by decide) ?_
      refine pv_aload_n d_O_requests_20 rfl rfl ?_
      refine pv_ifnonnull 27 (by decide) d_O_requests_21 ?_
      refine pv_aload_n d_O_requests_27 rfl rfl ?_
      refine pv_callV0I d_O_requests_28 (k_R_isTokenLost (by first | assumption | omega) hb ?_) sb_R_isTokenLost wm_O_115 (gx_R (by first | assumption | omega)) rfl ⟨wi_R_isTokenLost, we_R_isTokenLost⟩ (by decide) (by decide) (Nat.le_of_ble_eq_true rfl) (by decide) (by decide)
      have hbb := b2_lt (decide (σ 12 rr = 0))
      first | refine pv_ifN_eq 38 (by decide) d_O_requests_31 (by first | assumption | omega) (fun h31 => ?_) (fun h31 => ?_) | refine pv_if_eq 38 (by decide) d_O_requests_31 (fun h31 => ?_) (fun h31 => ?_)
      · refine pv_aload_n d_O_requests_38 rfl rfl ?_
        refine gR_requests d_O_requests_39 ff_O_127 (by first | assumption | omega) ?_
        refine pv_callS1I d_O_requests_42 (k_J_bitCount (Nat.lt_trans (hb 14 rr) (by decide)) ?_) sb_J_bitCount wm_O_131 ws_J_bitCount (by decide) (by decide) (Nat.le_of_ble_eq_true rfl) (by decide) (by decide)
        refine pv_iret d_O_requests_45 ?_
        simp only [a_requests, hring, if_neg (of_decide_eq_false (b2_0.mp h31))] at k
        exact k
      · refine pv_iconst d_O_requests_34 (-1) (by decide) ?_
        refine pv_goto 45 (by decide) d_O_requests_35 ?_
        refine pv_iret d_O_requests_45 ?_
        simp only [a_requests, hring, if_pos (of_decide_eq_true (b2_n0.mp h31))] at k
        exact k
  · refine pv_bipush d_O_requests_7 (-3) (by decide) ?_
    refine pv_iret d_O_requests_9 ?_
    exact absurd h4 (by decide)

set_option maxRecDepth 100000 in
set_option maxHeartbeats 4000000 in
theorem k_O_reach_no {post : Int32 → List va_E → Prop} {x : Int32} (h : x < 0 ∨ nI 5 ≤ x) (k : post (-3) (memX σ ++ ρ)) : pv_M l D ty base b 2 0 0 (fun _ => True) y_O_reach c_O_reach 3 (some .int) [.ref (0 + 1), .int x] (memX σ ++ ρ) (pv_QI D ty base b post) := by
  refine pv_enter [some (.ref (0 + 1)), some (.int x), none] (by decide) (fun _ => rfl) (fun _ => Nat.le_of_ble_eq_true rfl) ?_
  refine pv_iload_n d_O_reach_0 rfl rfl ?_
  refine pv_callS1I d_O_reach_1 (k_O_isNode_no h ?_) sb_O_isNode wm_O_39 ws_O_isNode (by decide) (by decide) (Nat.le_of_ble_eq_true rfl) (by decide) (by decide)
  first | refine pv_ifN_ne 10 (by decide) d_O_reach_4 (by first | assumption | omega) (fun h4 => ?_) (fun h4 => ?_) | refine pv_if_ne 10 (by decide) d_O_reach_4 (fun h4 => ?_) (fun h4 => ?_)
  · exact absurd h4 (by decide)
  · refine pv_bipush d_O_reach_7 (-3) (by decide) ?_
    refine pv_iret d_O_reach_9 ?_
    exact k

set_option maxRecDepth 100000 in
set_option maxHeartbeats 4000000 in
theorem k_O_reach {post : Int32 → List va_E → Prop} {n : Nat} (hn : n < 5) (hb : bX σ) (k : post (a_reach σ n) (memX σ ++ ρ)) : pv_M l D ty base b 2 0 0 (fun _ => True) y_O_reach c_O_reach 3 (some .int) [.ref (0 + 1), .int (nI n)] (memX σ ++ ρ) (pv_QI D ty base b post) := by
  refine pv_enter [some (.ref (0 + 1)), some (.int (nI n)), none] (by decide) (fun _ => rfl) (fun _ => Nat.le_of_ble_eq_true rfl) ?_
  refine pv_iload_n d_O_reach_0 rfl rfl ?_
  refine pv_callS1I d_O_reach_1 (k_O_isNode hn ?_) sb_O_isNode wm_O_39 ws_O_isNode (by decide) (by decide) (Nat.le_of_ble_eq_true rfl) (by decide) (by decide)
  first | refine pv_ifN_ne 10 (by decide) d_O_reach_4 (by first | assumption | omega) (fun h4 => ?_) (fun h4 => ?_) | refine pv_if_ne 10 (by decide) d_O_reach_4 (fun h4 => ?_) (fun h4 => ?_)
  · refine pv_aload_n d_O_reach_10 rfl rfl ?_
    refine gO_nodes d_O_reach_11 ff_O_11 ?_
    refine pv_iload_n d_O_reach_14 rfl rfl ?_
    refine l_nodes d_O_reach_15 (by first | assumption | omega) ?_
    refine pv_ast2 d_O_reach_16 rfl (by decide) ?_
    refine pv_aload_n d_O_reach_17 rfl rfl ?_
    refine pv_callV0I d_O_reach_18 (k_N_isUp hn ?_) sb_N_isUp wm_O_43 (gx_N (by first | assumption | omega)) rfl ⟨wi_N_isUp, we_N_isUp⟩ (by decide) (by decide) (Nat.le_of_ble_eq_true rfl) (by decide) (by decide)
    have hbb := b2_lt (decide (σ 1 n ≠ 0))
    first | refine pv_ifN_eq 31 (by decide) d_O_reach_21 (by first | assumption | omega) (fun h21 => ?_) (fun h21 => ?_) | refine pv_if_eq 31 (by decide) d_O_reach_21 (fun h21 => ?_) (fun h21 => ?_)
    · refine pv_bipush d_O_reach_31 (-2) (by decide) ?_
      refine pv_iret d_O_reach_33 ?_
      rw [a_reach, if_pos (Decidable.not_not.mp (of_decide_eq_false (b2_0.mp h21)))] at k
      exact k
    · refine pv_aload_n d_O_reach_24 rfl rfl ?_
      refine pv_callV0I d_O_reach_25 (k_N_heldWithoutGap hn hb ?_) sb_N_heldWithoutGap wm_O_137 (gx_N (by first | assumption | omega)) rfl ⟨wi_N_heldWithoutGap, we_N_heldWithoutGap⟩ (by decide) (by decide) (Nat.le_of_ble_eq_true rfl) (by decide) (by decide)
      refine pv_goto 33 (by decide) d_O_reach_28 ?_
      refine pv_iret d_O_reach_33 ?_
      rw [a_reach, if_neg (of_decide_eq_true (b2_n0.mp h21))] at k
      exact k
  · refine pv_bipush d_O_reach_7 (-3) (by decide) ?_
    refine pv_iret d_O_reach_9 ?_
    exact absurd h4 (by decide)

set_option maxRecDepth 100000 in
set_option maxHeartbeats 4000000 in
theorem k_O_line_no {post : Int32 → List va_E → Prop} {x : Int32} (h : x < 0 ∨ nI 5 ≤ x) (k : post (-3) (memX σ ++ ρ)) : pv_M l D ty base b 1 0 0 (fun _ => True) y_O_line c_O_line 3 (some .int) [.ref (0 + 1), .int x] (memX σ ++ ρ) (pv_QI D ty base b post) := by
  refine pv_enter [some (.ref (0 + 1)), some (.int x), none] (by decide) (fun _ => rfl) (fun _ => Nat.le_of_ble_eq_true rfl) ?_
  refine pv_iload_n d_O_line_0 rfl rfl ?_
  refine pv_callS1I d_O_line_1 (k_O_isNode_no h ?_) sb_O_isNode wm_O_39 ws_O_isNode (by decide) (by decide) (Nat.le_of_ble_eq_true rfl) (by decide) (by decide)
  first | refine pv_ifN_ne 10 (by decide) d_O_line_4 (by first | assumption | omega) (fun h4 => ?_) (fun h4 => ?_) | refine pv_if_ne 10 (by decide) d_O_line_4 (fun h4 => ?_) (fun h4 => ?_)
  · exact absurd h4 (by decide)
  · refine pv_bipush d_O_line_7 (-3) (by decide) ?_
    refine pv_iret d_O_line_9 ?_
    exact k

set_option maxRecDepth 100000 in
set_option maxHeartbeats 4000000 in
theorem k_O_line {post : Int32 → List va_E → Prop} {n : Nat} (hn : n < 5) (hb : bX σ) (k : post (a_line σ n) (memX σ ++ ρ)) : pv_M l D ty base b 1 0 0 (fun _ => True) y_O_line c_O_line 3 (some .int) [.ref (0 + 1), .int (nI n)] (memX σ ++ ρ) (pv_QI D ty base b post) := by
  refine pv_enter [some (.ref (0 + 1)), some (.int (nI n)), none] (by decide) (fun _ => rfl) (fun _ => Nat.le_of_ble_eq_true rfl) ?_
  refine pv_iload_n d_O_line_0 rfl rfl ?_
  refine pv_callS1I d_O_line_1 (k_O_isNode hn ?_) sb_O_isNode wm_O_39 ws_O_isNode (by decide) (by decide) (Nat.le_of_ble_eq_true rfl) (by decide) (by decide)
  first | refine pv_ifN_ne 10 (by decide) d_O_line_4 (by first | assumption | omega) (fun h4 => ?_) (fun h4 => ?_) | refine pv_if_ne 10 (by decide) d_O_line_4 (fun h4 => ?_) (fun h4 => ?_)
  · refine pv_aload_n d_O_line_10 rfl rfl ?_
    refine gO_nodes d_O_line_11 ff_O_11 ?_
    refine pv_iload_n d_O_line_14 rfl rfl ?_
    refine l_nodes d_O_line_15 (by first | assumption | omega) ?_
    refine pv_ast2 d_O_line_16 rfl (by decide) ?_
    refine pv_aload_n d_O_line_17 rfl rfl ?_
    refine pv_callV0I d_O_line_18 (k_N_isUp hn ?_) sb_N_isUp wm_O_43 (gx_N (by first | assumption | omega)) rfl ⟨wi_N_isUp, we_N_isUp⟩ (by decide) (by decide) (Nat.le_of_ble_eq_true rfl) (by decide) (by decide)
    have hbb := b2_lt (decide (σ 1 n ≠ 0))
    first | refine pv_ifN_eq 31 (by decide) d_O_line_21 (by first | assumption | omega) (fun h21 => ?_) (fun h21 => ?_) | refine pv_if_eq 31 (by decide) d_O_line_21 (fun h21 => ?_) (fun h21 => ?_)
    · refine pv_bipush d_O_line_31 (-2) (by decide) ?_
      refine pv_iret d_O_line_33 ?_
      rw [a_line, if_pos (Decidable.not_not.mp (of_decide_eq_false (b2_0.mp h21)))] at k
      exact k
    · refine pv_aload_n d_O_line_24 rfl rfl ?_
      refine gN_line d_O_line_25 ff_O_82 (by first | assumption | omega) ?_
      refine pv_goto 33 (by decide) d_O_line_28 ?_
      refine pv_iret d_O_line_33 ?_
      rw [a_line, if_neg (of_decide_eq_true (b2_n0.mp h21))] at k
      exact k
  · refine pv_bipush d_O_line_7 (-3) (by decide) ?_
    refine pv_iret d_O_line_9 ?_
    exact absurd h4 (by decide)

set_option maxRecDepth 100000 in
set_option maxHeartbeats 4000000 in
theorem k_O_waiting_no {post : Int32 → List va_E → Prop} {x : Int32} (h : x < 0 ∨ nI 5 ≤ x) (k : post (-3) (memX σ ++ ρ)) : pv_M l D ty base b 1 0 0 (fun _ => True) y_O_waiting c_O_waiting 3 (some .int) [.ref (0 + 1), .int x] (memX σ ++ ρ) (pv_QI D ty base b post) := by
  refine pv_enter [some (.ref (0 + 1)), some (.int x), none] (by decide) (fun _ => rfl) (fun _ => Nat.le_of_ble_eq_true rfl) ?_
  refine pv_iload_n d_O_waiting_0 rfl rfl ?_
  refine pv_callS1I d_O_waiting_1 (k_O_isNode_no h ?_) sb_O_isNode wm_O_39 ws_O_isNode (by decide) (by decide) (Nat.le_of_ble_eq_true rfl) (by decide) (by decide)
  first | refine pv_ifN_ne 10 (by decide) d_O_waiting_4 (by first | assumption | omega) (fun h4 => ?_) (fun h4 => ?_) | refine pv_if_ne 10 (by decide) d_O_waiting_4 (fun h4 => ?_) (fun h4 => ?_)
  · exact absurd h4 (by decide)
  · refine pv_bipush d_O_waiting_7 (-3) (by decide) ?_
    refine pv_iret d_O_waiting_9 ?_
    exact k

set_option maxRecDepth 100000 in
set_option maxHeartbeats 4000000 in
theorem k_O_waiting {post : Int32 → List va_E → Prop} {n : Nat} (hn : n < 5) (hb : bX σ) (k : post (a_waiting σ n) (memX σ ++ ρ)) : pv_M l D ty base b 1 0 0 (fun _ => True) y_O_waiting c_O_waiting 3 (some .int) [.ref (0 + 1), .int (nI n)] (memX σ ++ ρ) (pv_QI D ty base b post) := by
  refine pv_enter [some (.ref (0 + 1)), some (.int (nI n)), none] (by decide) (fun _ => rfl) (fun _ => Nat.le_of_ble_eq_true rfl) ?_
  refine pv_iload_n d_O_waiting_0 rfl rfl ?_
  refine pv_callS1I d_O_waiting_1 (k_O_isNode hn ?_) sb_O_isNode wm_O_39 ws_O_isNode (by decide) (by decide) (Nat.le_of_ble_eq_true rfl) (by decide) (by decide)
  first | refine pv_ifN_ne 10 (by decide) d_O_waiting_4 (by first | assumption | omega) (fun h4 => ?_) (fun h4 => ?_) | refine pv_if_ne 10 (by decide) d_O_waiting_4 (fun h4 => ?_) (fun h4 => ?_)
  · refine pv_aload_n d_O_waiting_10 rfl rfl ?_
    refine gO_nodes d_O_waiting_11 ff_O_11 ?_
    refine pv_iload_n d_O_waiting_14 rfl rfl ?_
    refine l_nodes d_O_waiting_15 (by first | assumption | omega) ?_
    refine pv_ast2 d_O_waiting_16 rfl (by decide) ?_
    refine pv_aload_n d_O_waiting_17 rfl rfl ?_
    refine pv_callV0I d_O_waiting_18 (k_N_isUp hn ?_) sb_N_isUp wm_O_43 (gx_N (by first | assumption | omega)) rfl ⟨wi_N_isUp, we_N_isUp⟩ (by decide) (by decide) (Nat.le_of_ble_eq_true rfl) (by decide) (by decide)
    have hbb := b2_lt (decide (σ 1 n ≠ 0))
    first | refine pv_ifN_eq 31 (by decide) d_O_waiting_21 (by first | assumption | omega) (fun h21 => ?_) (fun h21 => ?_) | refine pv_if_eq 31 (by decide) d_O_waiting_21 (fun h21 => ?_) (fun h21 => ?_)
    · refine pv_bipush d_O_waiting_31 (-2) (by decide) ?_
      refine pv_iret d_O_waiting_33 ?_
      rw [a_waiting, if_pos (Decidable.not_not.mp (of_decide_eq_false (b2_0.mp h21)))] at k
      exact k
    · refine pv_aload_n d_O_waiting_24 rfl rfl ?_
      refine gN_queued d_O_waiting_25 ff_O_50 (by first | assumption | omega) ?_
      refine pv_goto 33 (by decide) d_O_waiting_28 ?_
      refine pv_iret d_O_waiting_33 ?_
      rw [a_waiting, if_neg (of_decide_eq_true (b2_n0.mp h21))] at k
      exact k
  · refine pv_bipush d_O_waiting_7 (-3) (by decide) ?_
    refine pv_iret d_O_waiting_9 ?_
    exact absurd h4 (by decide)

set_option maxRecDepth 100000 in
set_option maxHeartbeats 4000000 in
theorem k_O_delivered_no {post : Int32 → List va_E → Prop} {x : Int32} (h : x < 0 ∨ nI 5 ≤ x) (k : post (-3) (memX σ ++ ρ)) : pv_M l D ty base b 1 0 0 (fun _ => True) y_O_delivered c_O_delivered 2 (some .int) [.ref (0 + 1), .int x] (memX σ ++ ρ) (pv_QI D ty base b post) := by
  refine pv_enter [some (.ref (0 + 1)), some (.int x)] (by decide) (fun _ => rfl) (fun _ => Nat.le_of_ble_eq_true rfl) ?_
  refine pv_iload_n d_O_delivered_0 rfl rfl ?_
  refine pv_callS1I d_O_delivered_1 (k_O_isNode_no h ?_) sb_O_isNode wm_O_39 ws_O_isNode (by decide) (by decide) (Nat.le_of_ble_eq_true rfl) (by decide) (by decide)
  first | refine pv_ifN_eq 19 (by decide) d_O_delivered_4 (by first | assumption | omega) (fun h4 => ?_) (fun h4 => ?_) | refine pv_if_eq 19 (by decide) d_O_delivered_4 (fun h4 => ?_) (fun h4 => ?_)
  · refine pv_bipush d_O_delivered_19 (-3) (by decide) ?_
    refine pv_iret d_O_delivered_21 ?_
    exact k
  · exact absurd rfl h4

set_option maxRecDepth 100000 in
set_option maxHeartbeats 4000000 in
theorem k_O_delivered {post : Int32 → List va_E → Prop} {n : Nat} (hn : n < 5) (k : post (nI (σ 4 n)) (memX σ ++ ρ)) : pv_M l D ty base b 1 0 0 (fun _ => True) y_O_delivered c_O_delivered 2 (some .int) [.ref (0 + 1), .int (nI n)] (memX σ ++ ρ) (pv_QI D ty base b post) := by
  refine pv_enter [some (.ref (0 + 1)), some (.int (nI n))] (by decide) (fun _ => rfl) (fun _ => Nat.le_of_ble_eq_true rfl) ?_
  refine pv_iload_n d_O_delivered_0 rfl rfl ?_
  refine pv_callS1I d_O_delivered_1 (k_O_isNode hn ?_) sb_O_isNode wm_O_39 ws_O_isNode (by decide) (by decide) (Nat.le_of_ble_eq_true rfl) (by decide) (by decide)
  first | refine pv_ifN_eq 19 (by decide) d_O_delivered_4 (by first | assumption | omega) (fun h4 => ?_) (fun h4 => ?_) | refine pv_if_eq 19 (by decide) d_O_delivered_4 (fun h4 => ?_) (fun h4 => ?_)
  · refine pv_bipush d_O_delivered_19 (-3) (by decide) ?_
    refine pv_iret d_O_delivered_21 ?_
    exact absurd h4 (by decide)
  · refine pv_aload_n d_O_delivered_7 rfl rfl ?_
    refine gO_nodes d_O_delivered_8 ff_O_11 ?_
    refine pv_iload_n d_O_delivered_11 rfl rfl ?_
    refine l_nodes d_O_delivered_12 (by first | assumption | omega) ?_
    refine gN_logged d_O_delivered_13 ff_O_140 (by first | assumption | omega) ?_
    refine pv_goto 21 (by decide) d_O_delivered_16 ?_
    refine pv_iret d_O_delivered_21 ?_
    exact k

set_option maxRecDepth 100000 in
set_option maxHeartbeats 4000000 in
theorem k_O_log_no {post : Int32 → List va_E → Prop} {x y : Int32} (h : x < 0 ∨ nI 5 ≤ x) (k : post (-3) (memX σ ++ ρ)) : pv_M l D ty base b 1 0 0 (fun _ => True) y_O_log c_O_log 4 (some .int) [.ref (0 + 1), .int x, .int y] (memX σ ++ ρ) (pv_QI D ty base b post) := by
  refine pv_enter [some (.ref (0 + 1)), some (.int x), some (.int y), none] (by decide) (fun _ => rfl) (fun _ => Nat.le_of_ble_eq_true rfl) ?_
  refine pv_iload_n d_O_log_0 rfl rfl ?_
  refine pv_callS1I d_O_log_1 (k_O_isNode_no h ?_) sb_O_isNode wm_O_39 ws_O_isNode (by decide) (by decide) (Nat.le_of_ble_eq_true rfl) (by decide) (by decide)
  first | refine pv_ifN_ne 10 (by decide) d_O_log_4 (by first | assumption | omega) (fun h4 => ?_) (fun h4 => ?_) | refine pv_if_ne 10 (by decide) d_O_log_4 (fun h4 => ?_) (fun h4 => ?_)
  · exact absurd h4 (by decide)
  · refine pv_bipush d_O_log_7 (-3) (by decide) ?_
    refine pv_iret d_O_log_9 ?_
    exact k

set_option maxRecDepth 100000 in
set_option maxHeartbeats 4000000 in
theorem k_O_log_out {post : Int32 → List va_E → Prop} {n : Nat} {y : Int32} (hn : n < 5) (hy : y < 0 ∨ nI (σ 4 n) ≤ y) (k : post (-3) (memX σ ++ ρ)) : pv_M l D ty base b 1 0 0 (fun _ => True) y_O_log c_O_log 4 (some .int) [.ref (0 + 1), .int (nI n), .int y] (memX σ ++ ρ) (pv_QI D ty base b post) := by
  refine pv_enter [some (.ref (0 + 1)), some (.int (nI n)), some (.int y), none] (by decide) (fun _ => rfl) (fun _ => Nat.le_of_ble_eq_true rfl) ?_
  refine pv_iload_n d_O_log_0 rfl rfl ?_
  refine pv_callS1I d_O_log_1 (k_O_isNode hn ?_) sb_O_isNode wm_O_39 ws_O_isNode (by decide) (by decide) (Nat.le_of_ble_eq_true rfl) (by decide) (by decide)
  first | refine pv_ifN_ne 10 (by decide) d_O_log_4 (by first | assumption | omega) (fun h4 => ?_) (fun h4 => ?_) | refine pv_if_ne 10 (by decide) d_O_log_4 (fun h4 => ?_) (fun h4 => ?_)
  · refine pv_aload_n d_O_log_10 rfl rfl ?_
    refine gO_nodes d_O_log_11 ff_O_11 ?_
    refine pv_iload_n d_O_log_14 rfl rfl ?_
    refine l_nodes d_O_log_15 (by first | assumption | omega) ?_
    refine pv_ast3 d_O_log_16 rfl (by decide) ?_
    refine pv_iload_n d_O_log_17 rfl rfl ?_
    refine pv_if_lt 29 (by decide) d_O_log_18 (fun h18 => ?_) (fun h18 => ?_)
    · refine pv_bipush d_O_log_29 (-3) (by decide) ?_
      refine pv_iret d_O_log_31 ?_
      exact k
    · refine pv_iload_n d_O_log_21 rfl rfl ?_
      refine pv_aload_n d_O_log_22 rfl rfl ?_
      refine gN_logged d_O_log_23 ff_O_140 (by first | assumption | omega) ?_
      first | refine pv_icmpN_lt 32 (by decide) d_O_log_26 (by first | assumption | omega) (by first | assumption | omega) (fun h26 => ?_) (fun h26 => ?_) | refine pv_icmp_lt 32 (by decide) d_O_log_26 (fun h26 => ?_) (fun h26 => ?_)
      · exact absurd hy (by intro q; rcases q with q | q
                            · exact h18 q
                            · exact absurd h26 (Int32.not_lt.mpr q))
      · refine pv_bipush d_O_log_29 (-3) (by decide) ?_
        refine pv_iret d_O_log_31 ?_
        exact k
  · refine pv_bipush d_O_log_7 (-3) (by decide) ?_
    refine pv_iret d_O_log_9 ?_
    exact absurd h4 (by decide)

set_option maxRecDepth 100000 in
set_option maxHeartbeats 4000000 in
theorem k_O_log {post : Int32 → List va_E → Prop} {n j : Nat} (hn : n < 5) (hb : bX σ) (hj : j < σ 4 n) (k : post (nI (σ (30 + n) j)) (memX σ ++ ρ)) : pv_M l D ty base b 1 0 0 (fun _ => True) y_O_log c_O_log 4 (some .int) [.ref (0 + 1), .int (nI n), .int (nI j)] (memX σ ++ ρ) (pv_QI D ty base b post) := by
  refine pv_enter [some (.ref (0 + 1)), some (.int (nI n)), some (.int (nI j)), none] (by decide) (fun _ => rfl) (fun _ => Nat.le_of_ble_eq_true rfl) ?_
  have h4n : σ 4 n < 49 := hb 4 n
  refine pv_iload_n d_O_log_0 rfl rfl ?_
  refine pv_callS1I d_O_log_1 (k_O_isNode hn ?_) sb_O_isNode wm_O_39 ws_O_isNode (by decide) (by decide) (Nat.le_of_ble_eq_true rfl) (by decide) (by decide)
  first | refine pv_ifN_ne 10 (by decide) d_O_log_4 (by first | assumption | omega) (fun h4 => ?_) (fun h4 => ?_) | refine pv_if_ne 10 (by decide) d_O_log_4 (fun h4 => ?_) (fun h4 => ?_)
  · refine pv_aload_n d_O_log_10 rfl rfl ?_
    refine gO_nodes d_O_log_11 ff_O_11 ?_
    refine pv_iload_n d_O_log_14 rfl rfl ?_
    refine l_nodes d_O_log_15 (by first | assumption | omega) ?_
    refine pv_ast3 d_O_log_16 rfl (by decide) ?_
    refine pv_iload_n d_O_log_17 rfl rfl ?_
    refine pv_if_lt 29 (by decide) d_O_log_18 (fun h18 => ?_) (fun h18 => ?_)
    · refine pv_bipush d_O_log_29 (-3) (by decide) ?_
      refine pv_iret d_O_log_31 ?_
      exact absurd h18 (nI_pos (by omega))
    · refine pv_iload_n d_O_log_21 rfl rfl ?_
      refine pv_aload_n d_O_log_22 rfl rfl ?_
      refine gN_logged d_O_log_23 ff_O_140 (by first | assumption | omega) ?_
      first | refine pv_icmpN_lt 32 (by decide) d_O_log_26 (by first | assumption | omega) (by first | assumption | omega) (fun h26 => ?_) (fun h26 => ?_) | refine pv_icmp_lt 32 (by decide) d_O_log_26 (fun h26 => ?_) (fun h26 => ?_)
      · refine pv_aload_n d_O_log_32 rfl rfl ?_
        refine gN_entries d_O_log_33 ff_O_143 (by first | assumption | omega) ?_
        refine pv_iload_n d_O_log_36 rfl rfl ?_
        refine l_entries d_O_log_37 (by first | assumption | omega) (by first | assumption | omega) ?_
        refine pv_iret d_O_log_38 ?_
        exact k
      · refine pv_bipush d_O_log_29 (-3) (by decide) ?_
        refine pv_iret d_O_log_31 ?_
        omega
  · refine pv_bipush d_O_log_7 (-3) (by decide) ?_
    refine pv_iret d_O_log_9 ?_
    exact absurd h4 (by decide)

set_option maxRecDepth 100000 in
set_option maxHeartbeats 4000000 in
theorem k_O_stamp_out {post : Int32 → List va_E → Prop} {y : Int32} (hb : bX σ) (hy : y < nI 1 ∨ nI (σ 15 0) < y) (k : post (-3) (memX σ ++ ρ)) : pv_M l D ty base b 0 0 0 (fun _ => True) y_O_stamp c_O_stamp 2 (some .int) [.ref (0 + 1), .int y] (memX σ ++ ρ) (pv_QI D ty base b post) := by
  refine pv_enter [some (.ref (0 + 1)), some (.int y)] (by decide) (fun _ => rfl) (fun _ => Nat.le_of_ble_eq_true rfl) ?_
  refine pv_iload_n d_O_stamp_0 rfl rfl ?_
  refine pv_iconst d_O_stamp_1 (nI 1) (by decide) ?_
  first | refine pv_icmpN_lt 16 (by decide) d_O_stamp_2 (by first | assumption | omega) (by first | assumption | omega) (fun h2 => ?_) (fun h2 => ?_) | refine pv_icmp_lt 16 (by decide) d_O_stamp_2 (fun h2 => ?_) (fun h2 => ?_)
  · refine pv_bipush d_O_stamp_16 (-3) (by decide) ?_
    refine pv_iret d_O_stamp_18 ?_
    exact k
  · refine pv_iload_n d_O_stamp_5 rfl rfl ?_
    refine pv_aload_n d_O_stamp_6 rfl rfl ?_
    refine gO_messages d_O_stamp_7 ff_O_28 ?_
    refine gM_taken d_O_stamp_10 ff_O_47 ?_
    first | refine pv_icmpN_le 19 (by decide) d_O_stamp_13 (by first | assumption | omega) (by first | assumption | omega) (fun h13 => ?_) (fun h13 => ?_) | refine pv_icmp_le 19 (by decide) d_O_stamp_13 (fun h13 => ?_) (fun h13 => ?_)
    · exact absurd hy (by intro q; rcases q with q | q
                          · exact h2 q
                          · exact absurd h13 (Int32.not_le.mpr q))
    · refine pv_bipush d_O_stamp_16 (-3) (by decide) ?_
      refine pv_iret d_O_stamp_18 ?_
      exact k

set_option maxRecDepth 100000 in
set_option maxHeartbeats 4000000 in
theorem k_O_stamp {post : Int32 → List va_E → Prop} {j : Nat} (hb : bX σ) (h1 : 1 ≤ j) (h2 : j ≤ σ 15 0) (k : post (nI (σ 62 j)) (memX σ ++ ρ)) : pv_M l D ty base b 0 0 0 (fun _ => True) y_O_stamp c_O_stamp 2 (some .int) [.ref (0 + 1), .int (nI j)] (memX σ ++ ρ) (pv_QI D ty base b post) := by
  refine pv_enter [some (.ref (0 + 1)), some (.int (nI j))] (by decide) (fun _ => rfl) (fun _ => Nat.le_of_ble_eq_true rfl) ?_
  have h15 : σ 15 0 < 49 := hb 15 0
  refine pv_iload_n d_O_stamp_0 rfl rfl ?_
  refine pv_iconst d_O_stamp_1 (nI 1) (by decide) ?_
  first | refine pv_icmpN_lt 16 (by decide) d_O_stamp_2 (by first | assumption | omega) (by first | assumption | omega) (fun h2 => ?_) (fun h2 => ?_) | refine pv_icmp_lt 16 (by decide) d_O_stamp_2 (fun h2 => ?_) (fun h2 => ?_)
  · refine pv_bipush d_O_stamp_16 (-3) (by decide) ?_
    refine pv_iret d_O_stamp_18 ?_
    omega
  · refine pv_iload_n d_O_stamp_5 rfl rfl ?_
    refine pv_aload_n d_O_stamp_6 rfl rfl ?_
    refine gO_messages d_O_stamp_7 ff_O_28 ?_
    refine gM_taken d_O_stamp_10 ff_O_47 ?_
    first | refine pv_icmpN_le 19 (by decide) d_O_stamp_13 (by first | assumption | omega) (by first | assumption | omega) (fun h13 => ?_) (fun h13 => ?_) | refine pv_icmp_le 19 (by decide) d_O_stamp_13 (fun h13 => ?_) (fun h13 => ?_)
    · refine pv_aload_n d_O_stamp_19 rfl rfl ?_
      refine gO_messages d_O_stamp_20 ff_O_28 ?_
      refine gM_stamps d_O_stamp_23 ff_O_147 ?_
      refine pv_iload_n d_O_stamp_26 rfl rfl ?_
      refine l_stamps d_O_stamp_27 (by first | assumption | omega) ?_
      refine pv_iret d_O_stamp_28 ?_
      exact k
    · refine pv_bipush d_O_stamp_16 (-3) (by decide) ?_
      refine pv_iret d_O_stamp_18 ?_
      omega

end PUB
end
section
/-! 18.pub2: what the public methods of RotatingTokenGroup that change it do -/
section PUB2
variable {l : Launch} {D : va_G} {ty : Nat → ClassId} {base b : Nat} {σ : Nat → Nat → Nat} {ρ ξ : List va_E}
variable {M : List va_E}
set_option maxRecDepth 100000 in
set_option maxHeartbeats 4000000 in
theorem k_O_send_no {post : Int32 → List va_E → Prop} {x : Int32} {s : Nat} (h : x < 0 ∨ nI 5 ≤ x) (k : post (-3) (memX σ ++ ρ)) : pv_M l D ty base b 1 0 0 (fun _ => True) y_O_send c_O_send 5 (some .int) [.ref (0 + 1), .int x, .int (nI s)] (memX σ ++ ρ) (pv_QI D ty base b post) := by
  refine pv_enter [some (.ref (0 + 1)), some (.int x), some (.int (nI s)), none, none] (by decide) (fun _ => rfl) (fun _ => Nat.le_of_ble_eq_true rfl) ?_
  refine pv_iload_n d_O_send_0 rfl rfl ?_
  refine pv_callS1I d_O_send_1 (k_O_isNode_no h ?_) sb_O_isNode wm_O_39 ws_O_isNode (by decide) (by decide) (Nat.le_of_ble_eq_true rfl) (by decide) (by decide)
  first | refine pv_ifN_ne 10 (by decide) d_O_send_4 (by first | assumption | omega) (fun h4 => ?_) (fun h4 => ?_) | refine pv_if_ne 10 (by decide) d_O_send_4 (fun h4 => ?_) (fun h4 => ?_)
  · exact absurd h4 (by decide)
  · refine pv_bipush d_O_send_7 (-3) (by decide) ?_
    refine pv_iret d_O_send_9 ?_
    exact k

theorem bX_take {n s : Nat} {σ : Nat → Nat → Nat} (hb : bX σ) (h15 : σ 15 0 < 48) (hn : n < 5) (hs : s ≤ 1) : bX (x_take σ n s) := bX_sU (bX_sU (bX_sU hb (show _ < 49 by omega)) hn) (show s < 2 by omega)
theorem x_take_ne {n s f j : Nat} {σ : Nat → Nat → Nat} (h1 : f ≠ 15) (h2 : f ≠ 60) (h3 : f ≠ 61) : x_take σ n s f j = σ f j := by
  unfold x_take
  rw [sU_nef h3, sU_nef h2, sU_nef h1]
set_option maxRecDepth 100000 in
set_option maxHeartbeats 4000000 in
theorem k_O_send {post : Int32 → List va_E → Prop} {n s : Nat} (hn : n < 5) (hs : s ≤ 1) (hb : bX σ) (k : post (a_send σ n s).1 (memX (a_send σ n s).2 ++ ρ)) : pv_M l D ty base b 1 0 0 (fun _ => True) y_O_send c_O_send 5 (some .int) [.ref (0 + 1), .int (nI n), .int (nI s)] (memX σ ++ ρ) (pv_QI D ty base b post) := by
  refine pv_enter [some (.ref (0 + 1)), some (.int (nI n)), some (.int (nI s)), none, none] (by decide) (fun _ => rfl) (fun _ => Nat.le_of_ble_eq_true rfl) ?_
  refine pv_iload_n d_O_send_0 rfl rfl ?_
  refine pv_callS1I d_O_send_1 (k_O_isNode hn ?_) sb_O_isNode wm_O_39 ws_O_isNode (by decide) (by decide) (Nat.le_of_ble_eq_true rfl) (by decide) (by decide)
  first | refine pv_ifN_ne 10 (by decide) d_O_send_4 (by first | assumption | omega) (fun h4 => ?_) (fun h4 => ?_) | refine pv_if_ne 10 (by decide) d_O_send_4 (fun h4 => ?_) (fun h4 => ?_)
  · refine pv_aload_n d_O_send_10 rfl rfl ?_
    refine gO_nodes d_O_send_11 ff_O_11 ?_
    refine pv_iload_n d_O_send_14 rfl rfl ?_
    refine l_nodes d_O_send_15 (by first | assumption | omega) ?_
    refine pv_ast3 d_O_send_16 rfl (by decide) ?_
    refine pv_aload_n d_O_send_17 rfl rfl ?_
    refine pv_callV0I d_O_send_18 (k_N_isUp hn ?_) sb_N_isUp wm_O_43 (gx_N (by first | assumption | omega)) rfl ⟨wi_N_isUp, we_N_isUp⟩ (by decide) (by decide) (Nat.le_of_ble_eq_true rfl) (by decide) (by decide)
    have hbb := b2_lt (decide (σ 1 n ≠ 0))
    have h15 : σ 15 0 < 49 := hb 15 0
    have h3 : σ 3 n < 9 := hb 3 n
    first | refine pv_ifN_ne 27 (by decide) d_O_send_21 (by first | assumption | omega) (fun h21 => ?_) (fun h21 => ?_) | refine pv_if_ne 27 (by decide) d_O_send_21 (fun h21 => ?_) (fun h21 => ?_)
    · refine pv_aload_n d_O_send_27 rfl rfl ?_
      refine gO_messages d_O_send_28 ff_O_28 ?_
      refine gM_taken d_O_send_31 ff_O_47 ?_
      refine pv_bipush d_O_send_34 (nI 48) (by decide) ?_
      first | refine pv_icmpN_ge 48 (by decide) d_O_send_36 (by first | assumption | omega) (by first | assumption | omega) (fun h36 => ?_) (fun h36 => ?_) | refine pv_icmp_ge 48 (by decide) d_O_send_36 (fun h36 => ?_) (fun h36 => ?_)
      · refine pv_bipush d_O_send_48 (-4) (by decide) ?_
        refine pv_iret d_O_send_50 ?_
        rw [a_send, if_neg (of_decide_eq_true (b2_n0.mp h21))] at k
        rw [if_pos h36] at k
        exact k
      · refine pv_aload_n d_O_send_39 rfl rfl ?_
        refine gN_queued d_O_send_40 ff_O_50 (by first | assumption | omega) ?_
        refine pv_bipush d_O_send_43 (nI 8) (by decide) ?_
        first | refine pv_icmpN_lt 51 (by decide) d_O_send_45 (by first | assumption | omega) (by first | assumption | omega) (fun h45 => ?_) (fun h45 => ?_) | refine pv_icmp_lt 51 (by decide) d_O_send_45 (fun h45 => ?_) (fun h45 => ?_)
        · refine pv_aload_n d_O_send_51 rfl rfl ?_
          refine gO_messages d_O_send_52 ff_O_28 ?_
          refine pv_iload_n d_O_send_55 rfl rfl ?_
          refine pv_iload_n d_O_send_56 rfl rfl ?_
          refine pv_callV2I d_O_send_57 (k_M_take h36 hs ?_) sb_M_take wm_O_53 gx_M rfl ⟨wi_M_take, we_M_take⟩ (by decide) (by decide) (Nat.le_of_ble_eq_true rfl) (by decide) (by decide)
          refine pv_ist4 d_O_send_60 rfl (by decide) ?_
          refine pv_aload_n d_O_send_62 rfl rfl ?_
          refine pv_iload d_O_send_63 rfl ?_
          refine pv_callV1V d_O_send_65 (k_N_enqueue hn (bX_take hb h36 hn hs) ?_) sb_N_enqueue wm_O_57 (gx_N (by first | assumption | omega)) rfl ⟨wi_N_enqueue, we_N_enqueue⟩ (by decide) (by decide) (Nat.le_of_ble_eq_true rfl) (by decide) (by decide)
          refine pv_iload d_O_send_68 rfl ?_
          refine pv_iret d_O_send_70 ?_
          rw [a_send, if_neg (of_decide_eq_true (b2_n0.mp h21))] at k
          rw [if_neg (Nat.not_le.mpr h36)] at k
          rw [if_neg (Nat.not_le.mpr h45)] at k
          exact k
        · refine pv_bipush d_O_send_48 (-4) (by decide) ?_
          refine pv_iret d_O_send_50 ?_
          rw [a_send, if_neg (of_decide_eq_true (b2_n0.mp h21))] at k
          rw [if_neg (Nat.not_le.mpr h36)] at k
          rw [if_pos h45] at k
          exact k
    · refine pv_bipush d_O_send_24 (-2) (by decide) ?_
      refine pv_iret d_O_send_26 ?_
      rw [a_send, if_pos (Decidable.not_not.mp (of_decide_eq_false (b2_0.mp h21)))] at k
      exact k
  · refine pv_bipush d_O_send_7 (-3) (by decide) ?_
    refine pv_iret d_O_send_9 ?_
    exact absurd h4 (by decide)

set_option maxRecDepth 100000 in
set_option maxHeartbeats 4000000 in
theorem k_O_tick_no {post : Int32 → List va_E → Prop} {x : Int32} (h : x < 0 ∨ nI 5 ≤ x) (k : post (-3) (memX σ ++ ρ)) : pv_M l D ty base b 1 0 0 (fun _ => True) y_O_tick c_O_tick 3 (some .int) [.ref (0 + 1), .int x] (memX σ ++ ρ) (pv_QI D ty base b post) := by
  refine pv_enter [some (.ref (0 + 1)), some (.int x), none] (by decide) (fun _ => rfl) (fun _ => Nat.le_of_ble_eq_true rfl) ?_
  refine pv_iload_n d_O_tick_0 rfl rfl ?_
  refine pv_callS1I d_O_tick_1 (k_O_isNode_no h ?_) sb_O_isNode wm_O_39 ws_O_isNode (by decide) (by decide) (Nat.le_of_ble_eq_true rfl) (by decide) (by decide)
  first | refine pv_ifN_ne 10 (by decide) d_O_tick_4 (by first | assumption | omega) (fun h4 => ?_) (fun h4 => ?_) | refine pv_if_ne 10 (by decide) d_O_tick_4 (fun h4 => ?_) (fun h4 => ?_)
  · exact absurd h4 (by decide)
  · refine pv_bipush d_O_tick_7 (-3) (by decide) ?_
    refine pv_iret d_O_tick_9 ?_
    exact k

set_option maxRecDepth 100000 in
set_option maxHeartbeats 4000000 in
theorem k_O_tick {post : Int32 → List va_E → Prop} {n : Nat} (hn : n < 5) (hb : bX σ) (h9 : σ 9 n ≤ 3) (h0 : σ 0 0 + 1 < 600) (k : post (a_tick σ n).1 (memX (a_tick σ n).2 ++ ρ)) : pv_M l D ty base b 5 0 0 (fun _ => True) y_O_tick c_O_tick 3 (some .int) [.ref (0 + 1), .int (nI n)] (memX σ ++ ρ) (pv_QI D ty base b post) := by
  refine pv_enter [some (.ref (0 + 1)), some (.int (nI n)), none] (by decide) (fun _ => rfl) (fun _ => Nat.le_of_ble_eq_true rfl) ?_
  refine pv_iload_n d_O_tick_0 rfl rfl ?_
  refine pv_callS1I d_O_tick_1 (k_O_isNode hn ?_) sb_O_isNode wm_O_39 ws_O_isNode (by decide) (by decide) (Nat.le_of_ble_eq_true rfl) (by decide) (by decide)
  first | refine pv_ifN_ne 10 (by decide) d_O_tick_4 (by first | assumption | omega) (fun h4 => ?_) (fun h4 => ?_) | refine pv_if_ne 10 (by decide) d_O_tick_4 (fun h4 => ?_) (fun h4 => ?_)
  · refine pv_aload_n d_O_tick_10 rfl rfl ?_
    refine gO_nodes d_O_tick_11 ff_O_11 ?_
    refine pv_iload_n d_O_tick_14 rfl rfl ?_
    refine l_nodes d_O_tick_15 (by first | assumption | omega) ?_
    refine pv_ast2 d_O_tick_16 rfl (by decide) ?_
    refine pv_aload_n d_O_tick_17 rfl rfl ?_
    refine pv_callV0I d_O_tick_18 (k_N_isUp hn ?_) sb_N_isUp wm_O_43 (gx_N (by first | assumption | omega)) rfl ⟨wi_N_isUp, we_N_isUp⟩ (by decide) (by decide) (Nat.le_of_ble_eq_true rfl) (by decide) (by decide)
    have hbb := b2_lt (decide (σ 1 n ≠ 0))
    have h5 : σ 5 n < 3 := hb 5 n
    first | refine pv_ifN_ne 27 (by decide) d_O_tick_21 (by first | assumption | omega) (fun h21 => ?_) (fun h21 => ?_) | refine pv_if_ne 27 (by decide) d_O_tick_21 (fun h21 => ?_) (fun h21 => ?_)
    · refine pv_aload_n d_O_tick_27 rfl rfl ?_
      refine pv_dup d_O_tick_28 rfl ?_
      refine gN_timer d_O_tick_29 ff_O_89 (by first | assumption | omega) ?_
      refine pv_iconst d_O_tick_32 (nI 1) (by decide) ?_
      first | refine pv_iaddN d_O_tick_33 ?_ | refine pv_iadd d_O_tick_33 ?_
      refine pN_timer d_O_tick_34 ff_O_89 (by first | assumption | omega) ?_
      refine pv_aload_n d_O_tick_37 rfl rfl ?_
      refine gN_timer d_O_tick_38 ff_O_89 (by first | assumption | omega) ?_
      rw [sU_same]
      refine pv_iconst d_O_tick_41 (nI 4) (by decide) ?_
      first | refine pv_icmpN_ge 47 (by decide) d_O_tick_42 (by first | assumption | omega) (by first | assumption | omega) (fun h42 => ?_) (fun h42 => ?_) | refine pv_icmp_ge 47 (by decide) d_O_tick_42 (fun h42 => ?_) (fun h42 => ?_)
      · refine pv_aload_n d_O_tick_47 rfl rfl ?_
        refine pv_aload_n d_O_tick_48 rfl rfl ?_
        refine gN_area d_O_tick_49 ff_O_96 (by first | assumption | omega) ?_
        rw [sU_nef (by decide)]
        refine pv_callV1V d_O_tick_52 (k_O_formAnew (by omega) (bX_sU hb (show _ < 5 by omega)) (by rw [sU_nef (by decide)]; exact h0) ?_) sb_O_formAnew wm_O_99 gx_O rfl ⟨wi_O_formAnew, we_O_formAnew⟩ (by decide) (by decide) (Nat.le_of_ble_eq_true rfl) (by decide) (by decide)
        refine pv_iconst d_O_tick_55 (nI 1) (by decide) ?_
        refine pv_iret d_O_tick_56 ?_
        rw [a_tick, if_neg (of_decide_eq_true (b2_n0.mp h21))] at k
        rw [if_neg (Nat.not_lt.mpr h42)] at k
        exact k
      · refine pv_iconst d_O_tick_45 (nI 0) (by decide) ?_
        refine pv_iret d_O_tick_46 ?_
        rw [a_tick, if_neg (of_decide_eq_true (b2_n0.mp h21))] at k
        rw [if_pos h42] at k
        exact k
    · refine pv_bipush d_O_tick_24 (-2) (by decide) ?_
      refine pv_iret d_O_tick_26 ?_
      rw [a_tick, if_pos (Decidable.not_not.mp (of_decide_eq_false (b2_0.mp h21)))] at k
      exact k
  · refine pv_bipush d_O_tick_7 (-3) (by decide) ?_
    refine pv_iret d_O_tick_9 ?_
    exact absurd h4 (by decide)

set_option maxRecDepth 100000 in
set_option maxHeartbeats 4000000 in
theorem k_O_crash_no {post : Int32 → List va_E → Prop} {x : Int32} (h : x < 0 ∨ nI 5 ≤ x) (k : post (nI 0) (memX σ ++ ρ)) : pv_M l D ty base b 2 0 0 (fun _ => True) y_O_crash c_O_crash 2 (some .boolean) [.ref (0 + 1), .int x] (memX σ ++ ρ) (pv_QI D ty base b post) := by
  refine pv_enter [some (.ref (0 + 1)), some (.int x)] (by decide) (fun _ => rfl) (fun _ => Nat.le_of_ble_eq_true rfl) ?_
  refine pv_aload_n d_O_crash_0 rfl rfl ?_
  refine pv_iload_n d_O_crash_1 rfl rfl ?_
  refine pv_callV1I d_O_crash_2 (k_O_isUpNode_no h ?_) sb_O_isUpNode wm_O_106 gx_O rfl ⟨wi_O_isUpNode, we_O_isUpNode⟩ (by decide) (by decide) (Nat.le_of_ble_eq_true rfl) (by decide) (by decide)
  first | refine pv_ifN_ne 10 (by decide) d_O_crash_5 (by first | assumption | omega) (fun h5 => ?_) (fun h5 => ?_) | refine pv_if_ne 10 (by decide) d_O_crash_5 (fun h5 => ?_) (fun h5 => ?_)
  · exact absurd h5 (by decide)
  · refine pv_iconst d_O_crash_8 (nI 0) (by decide) ?_
    refine pv_zret d_O_crash_9 (by first | rfl | decide) ?_
    exact k

set_option maxRecDepth 100000 in
set_option maxHeartbeats 4000000 in
theorem k_O_crash {post : Int32 → List va_E → Prop} {n : Nat} (hn : n < 5) (hb : bX σ) (k : post (a_crash σ n).1 (memX (a_crash σ n).2 ++ ρ)) : pv_M l D ty base b 2 0 0 (fun _ => True) y_O_crash c_O_crash 2 (some .boolean) [.ref (0 + 1), .int (nI n)] (memX σ ++ ρ) (pv_QI D ty base b post) := by
  refine pv_enter [some (.ref (0 + 1)), some (.int (nI n))] (by decide) (fun _ => rfl) (fun _ => Nat.le_of_ble_eq_true rfl) ?_
  refine pv_aload_n d_O_crash_0 rfl rfl ?_
  refine pv_iload_n d_O_crash_1 rfl rfl ?_
  refine pv_callV1I d_O_crash_2 (k_O_isUpNode hn ?_) sb_O_isUpNode wm_O_106 gx_O rfl ⟨wi_O_isUpNode, we_O_isUpNode⟩ (by decide) (by decide) (Nat.le_of_ble_eq_true rfl) (by decide) (by decide)
  have hbb := b2_lt (decide (σ 1 n ≠ 0))
  first | refine pv_ifN_ne 10 (by decide) d_O_crash_5 (by first | assumption | omega) (fun h5 => ?_) (fun h5 => ?_) | refine pv_if_ne 10 (by decide) d_O_crash_5 (fun h5 => ?_) (fun h5 => ?_)
  · refine pv_aload_n d_O_crash_10 rfl rfl ?_
    refine gO_nodes d_O_crash_11 ff_O_11 ?_
    refine pv_iload_n d_O_crash_14 rfl rfl ?_
    refine l_nodes d_O_crash_15 (by first | assumption | omega) ?_
    refine pv_callV0V d_O_crash_16 (k_N_goDown hn hb ?_) sb_N_goDown wm_O_109 (gx_N (by first | assumption | omega)) rfl ⟨wi_N_goDown, we_N_goDown⟩ (by decide) (by decide) (Nat.le_of_ble_eq_true rfl) (by decide) (by decide)
    refine pv_iconst d_O_crash_19 (nI 1) (by decide) ?_
    refine pv_zret d_O_crash_20 (by first | rfl | decide) ?_
    rw [a_crash, if_neg (of_decide_eq_true (b2_n0.mp h5))] at k
    exact k
  · refine pv_iconst d_O_crash_8 (nI 0) (by decide) ?_
    refine pv_zret d_O_crash_9 (by first | rfl | decide) ?_
    rw [a_crash, if_pos (Decidable.not_not.mp (of_decide_eq_false (b2_0.mp h5)))] at k
    exact k

set_option maxRecDepth 100000 in
set_option maxHeartbeats 4000000 in
theorem k_O_restart_no {post : Int32 → List va_E → Prop} {x : Int32} (h : x < 0 ∨ nI 5 ≤ x) (k : post (nI 0) (memX σ ++ ρ)) : pv_M l D ty base b 1 0 0 (fun _ => True) y_O_restart c_O_restart 2 (some .boolean) [.ref (0 + 1), .int x] (memX σ ++ ρ) (pv_QI D ty base b post) := by
  refine pv_enter [some (.ref (0 + 1)), some (.int x)] (by decide) (fun _ => rfl) (fun _ => Nat.le_of_ble_eq_true rfl) ?_
  refine pv_iload_n d_O_restart_0 rfl rfl ?_
  refine pv_callS1I d_O_restart_1 (k_O_isNode_no h ?_) sb_O_isNode wm_O_39 ws_O_isNode (by decide) (by decide) (Nat.le_of_ble_eq_true rfl) (by decide) (by decide)
  first | refine pv_ifN_eq 19 (by decide) d_O_restart_4 (by first | assumption | omega) (fun h4 => ?_) (fun h4 => ?_) | refine pv_if_eq 19 (by decide) d_O_restart_4 (fun h4 => ?_) (fun h4 => ?_)
  · refine pv_iconst d_O_restart_19 (nI 0) (by decide) ?_
    refine pv_zret d_O_restart_20 (by first | rfl | decide) ?_
    exact k
  · exact absurd rfl h4

set_option maxRecDepth 100000 in
set_option maxHeartbeats 4000000 in
theorem k_O_restart {post : Int32 → List va_E → Prop} {n : Nat} (hn : n < 5) (hb : bX σ) (h0 : σ 0 0 + 1 < 600) (k : post (a_restart σ n).1 (memX (a_restart σ n).2 ++ ρ)) : pv_M l D ty base b 4 0 0 (fun _ => True) y_O_restart c_O_restart 2 (some .boolean) [.ref (0 + 1), .int (nI n)] (memX σ ++ ρ) (pv_QI D ty base b post) := by
  refine pv_enter [some (.ref (0 + 1)), some (.int (nI n))] (by decide) (fun _ => rfl) (fun _ => Nat.le_of_ble_eq_true rfl) ?_
  refine pv_iload_n d_O_restart_0 rfl rfl ?_
  refine pv_callS1I d_O_restart_1 (k_O_isNode hn ?_) sb_O_isNode wm_O_39 ws_O_isNode (by decide) (by decide) (Nat.le_of_ble_eq_true rfl) (by decide) (by decide)
  first | refine pv_ifN_eq 19 (by decide) d_O_restart_4 (by first | assumption | omega) (fun h4 => ?_) (fun h4 => ?_) | refine pv_if_eq 19 (by decide) d_O_restart_4 (fun h4 => ?_) (fun h4 => ?_)
  · refine pv_iconst d_O_restart_19 (nI 0) (by decide) ?_
    refine pv_zret d_O_restart_20 (by first | rfl | decide) ?_
    exact absurd h4 (by decide)
  · refine pv_aload_n d_O_restart_7 rfl rfl ?_
    refine gO_nodes d_O_restart_8 ff_O_11 ?_
    refine pv_iload_n d_O_restart_11 rfl rfl ?_
    refine l_nodes d_O_restart_12 (by first | assumption | omega) ?_
    refine pv_callV0I d_O_restart_13 (k_N_isUp hn ?_) sb_N_isUp wm_O_43 (gx_N (by first | assumption | omega)) rfl ⟨wi_N_isUp, we_N_isUp⟩ (by decide) (by decide) (Nat.le_of_ble_eq_true rfl) (by decide) (by decide)
    have hbb := b2_lt (decide (σ 1 n ≠ 0))
    first | refine pv_ifN_eq 21 (by decide) d_O_restart_16 (by first | assumption | omega) (fun h16 => ?_) (fun h16 => ?_) | refine pv_if_eq 21 (by decide) d_O_restart_16 (fun h16 => ?_) (fun h16 => ?_)
    · refine pv_aload_n d_O_restart_21 rfl rfl ?_
      refine pv_iconst d_O_restart_22 (nI 1) (by decide) ?_
      refine pv_iload_n d_O_restart_23 rfl rfl ?_
      first | refine pv_ishl1 d_O_restart_24 (by omega) ?_ | refine pv_ishl d_O_restart_24 ?_
      refine pv_callV1V d_O_restart_25 (k_O_enterNewRing hb h0 (Nat.pow_lt_pow_right (by decide) hn) ?_) sb_O_enterNewRing wm_O_36 gx_O rfl ⟨wi_O_enterNewRing, we_O_enterNewRing⟩ (by decide) (by decide) (Nat.le_of_ble_eq_true rfl) (by decide) (by decide)
      refine pv_iconst d_O_restart_28 (nI 1) (by decide) ?_
      refine pv_zret d_O_restart_29 (by first | rfl | decide) ?_
      rw [a_restart, if_pos (Decidable.not_not.mp (of_decide_eq_false (b2_0.mp h16)))] at k
      exact k
    · refine pv_iconst d_O_restart_19 (nI 0) (by decide) ?_
      refine pv_zret d_O_restart_20 (by first | rfl | decide) ?_
      rw [a_restart, if_neg (of_decide_eq_true (b2_n0.mp h16))] at k
      exact k

set_option maxRecDepth 100000 in
set_option maxHeartbeats 4000000 in
theorem k_O_place_no {post : Int32 → List va_E → Prop} {x y : Int32} (h : x < 0 ∨ nI 5 ≤ x) (k : post (nI 0) (memX σ ++ ρ)) : pv_M l D ty base b 1 0 0 (fun _ => True) y_O_place c_O_place 3 (some .boolean) [.ref (0 + 1), .int x, .int y] (memX σ ++ ρ) (pv_QI D ty base b post) := by
  refine pv_enter [some (.ref (0 + 1)), some (.int x), some (.int y)] (by decide) (fun _ => rfl) (fun _ => Nat.le_of_ble_eq_true rfl) ?_
  refine pv_iload_n d_O_place_0 rfl rfl ?_
  refine pv_callS1I d_O_place_1 (k_O_isNode_no h ?_) sb_O_isNode wm_O_39 ws_O_isNode (by decide) (by decide) (Nat.le_of_ble_eq_true rfl) (by decide) (by decide)
  first | refine pv_ifN_eq 16 (by decide) d_O_place_4 (by first | assumption | omega) (fun h4 => ?_) (fun h4 => ?_) | refine pv_if_eq 16 (by decide) d_O_place_4 (fun h4 => ?_) (fun h4 => ?_)
  · refine pv_iconst d_O_place_16 (nI 0) (by decide) ?_
    refine pv_zret d_O_place_17 (by first | rfl | decide) ?_
    exact k
  · exact absurd rfl h4

set_option maxRecDepth 100000 in
set_option maxHeartbeats 4000000 in
theorem k_O_place_out {post : Int32 → List va_E → Prop} {n : Nat} {y : Int32} (hn : n < 5) (hy : y < 0 ∨ nI 3 ≤ y) (k : post (nI 0) (memX σ ++ ρ)) : pv_M l D ty base b 1 0 0 (fun _ => True) y_O_place c_O_place 3 (some .boolean) [.ref (0 + 1), .int (nI n), .int y] (memX σ ++ ρ) (pv_QI D ty base b post) := by
  refine pv_enter [some (.ref (0 + 1)), some (.int (nI n)), some (.int y)] (by decide) (fun _ => rfl) (fun _ => Nat.le_of_ble_eq_true rfl) ?_
  refine pv_iload_n d_O_place_0 rfl rfl ?_
  refine pv_callS1I d_O_place_1 (k_O_isNode hn ?_) sb_O_isNode wm_O_39 ws_O_isNode (by decide) (by decide) (Nat.le_of_ble_eq_true rfl) (by decide) (by decide)
  first | refine pv_ifN_eq 16 (by decide) d_O_place_4 (by first | assumption | omega) (fun h4 => ?_) (fun h4 => ?_) | refine pv_if_eq 16 (by decide) d_O_place_4 (fun h4 => ?_) (fun h4 => ?_)
  · refine pv_iconst d_O_place_16 (nI 0) (by decide) ?_
    refine pv_zret d_O_place_17 (by first | rfl | decide) ?_
    exact absurd h4 (by decide)
  · refine pv_iload_n d_O_place_7 rfl rfl ?_
    refine pv_if_lt 16 (by decide) d_O_place_8 (fun h8 => ?_) (fun h8 => ?_)
    · refine pv_iconst d_O_place_16 (nI 0) (by decide) ?_
      refine pv_zret d_O_place_17 (by first | rfl | decide) ?_
      exact k
    · refine pv_iload_n d_O_place_11 rfl rfl ?_
      refine pv_iconst d_O_place_12 (nI 3) (by decide) ?_
      first | refine pv_icmpN_lt 18 (by decide) d_O_place_13 (by first | assumption | omega) (by first | assumption | omega) (fun h13 => ?_) (fun h13 => ?_) | refine pv_icmp_lt 18 (by decide) d_O_place_13 (fun h13 => ?_) (fun h13 => ?_)
      · exact absurd hy (by intro q; rcases q with q | q
                            · exact h8 q
                            · exact absurd h13 (Int32.not_lt.mpr q))
      · refine pv_iconst d_O_place_16 (nI 0) (by decide) ?_
        refine pv_zret d_O_place_17 (by first | rfl | decide) ?_
        exact k

set_option maxRecDepth 100000 in
set_option maxHeartbeats 4000000 in
theorem k_O_place {post : Int32 → List va_E → Prop} {n j : Nat} (hn : n < 5) (hj : j < 3) (k : post (nI 1) (memX (sU σ 5 n j) ++ ρ)) : pv_M l D ty base b 1 0 0 (fun _ => True) y_O_place c_O_place 3 (some .boolean) [.ref (0 + 1), .int (nI n), .int (nI j)] (memX σ ++ ρ) (pv_QI D ty base b post) := by
  refine pv_enter [some (.ref (0 + 1)), some (.int (nI n)), some (.int (nI j))] (by decide) (fun _ => rfl) (fun _ => Nat.le_of_ble_eq_true rfl) ?_
  refine pv_iload_n d_O_place_0 rfl rfl ?_
  refine pv_callS1I d_O_place_1 (k_O_isNode hn ?_) sb_O_isNode wm_O_39 ws_O_isNode (by decide) (by decide) (Nat.le_of_ble_eq_true rfl) (by decide) (by decide)
  first | refine pv_ifN_eq 16 (by decide) d_O_place_4 (by first | assumption | omega) (fun h4 => ?_) (fun h4 => ?_) | refine pv_if_eq 16 (by decide) d_O_place_4 (fun h4 => ?_) (fun h4 => ?_)
  · refine pv_iconst d_O_place_16 (nI 0) (by decide) ?_
    refine pv_zret d_O_place_17 (by first | rfl | decide) ?_
    exact absurd h4 (by decide)
  · refine pv_iload_n d_O_place_7 rfl rfl ?_
    refine pv_if_lt 16 (by decide) d_O_place_8 (fun h8 => ?_) (fun h8 => ?_)
    · refine pv_iconst d_O_place_16 (nI 0) (by decide) ?_
      refine pv_zret d_O_place_17 (by first | rfl | decide) ?_
      exact absurd h8 (nI_pos (by omega))
    · refine pv_iload_n d_O_place_11 rfl rfl ?_
      refine pv_iconst d_O_place_12 (nI 3) (by decide) ?_
      first | refine pv_icmpN_lt 18 (by decide) d_O_place_13 (by first | assumption | omega) (by first | assumption | omega) (fun h13 => ?_) (fun h13 => ?_) | refine pv_icmp_lt 18 (by decide) d_O_place_13 (fun h13 => ?_) (fun h13 => ?_)
      · refine pv_aload_n d_O_place_18 rfl rfl ?_
        refine gO_nodes d_O_place_19 ff_O_11 ?_
        refine pv_iload_n d_O_place_22 rfl rfl ?_
        refine l_nodes d_O_place_23 (by first | assumption | omega) ?_
        refine pv_iload_n d_O_place_24 rfl rfl ?_
        refine pN_area d_O_place_25 ff_O_96 (by first | assumption | omega) ?_
        refine pv_iconst d_O_place_28 (nI 1) (by decide) ?_
        refine pv_zret d_O_place_29 (by first | rfl | decide) ?_
        exact k
      · refine pv_iconst d_O_place_16 (nI 0) (by decide) ?_
        refine pv_zret d_O_place_17 (by first | rfl | decide) ?_
        omega

set_option maxRecDepth 100000 in
set_option maxHeartbeats 4000000 in
theorem k_O_deafen_no {post : Int32 → List va_E → Prop} {x y : Int32} (h : x < 0 ∨ nI 5 ≤ x) (k : post (nI 0) (memX σ ++ ρ)) : pv_M l D ty base b 2 0 0 (fun _ => True) y_O_deafen c_O_deafen 3 (some .boolean) [.ref (0 + 1), .int x, .int y] (memX σ ++ ρ) (pv_QI D ty base b post) := by
  refine pv_enter [some (.ref (0 + 1)), some (.int x), some (.int y)] (by decide) (fun _ => rfl) (fun _ => Nat.le_of_ble_eq_true rfl) ?_
  refine pv_aload_n d_O_deafen_0 rfl rfl ?_
  refine pv_iload_n d_O_deafen_1 rfl rfl ?_
  refine pv_callV1I d_O_deafen_2 (k_O_isUpNode_no h ?_) sb_O_isUpNode wm_O_106 gx_O rfl ⟨wi_O_isUpNode, we_O_isUpNode⟩ (by decide) (by decide) (Nat.le_of_ble_eq_true rfl) (by decide) (by decide)
  first | refine pv_ifN_eq 18 (by decide) d_O_deafen_5 (by first | assumption | omega) (fun h5 => ?_) (fun h5 => ?_) | refine pv_if_eq 18 (by decide) d_O_deafen_5 (fun h5 => ?_) (fun h5 => ?_)
  · refine pv_iconst d_O_deafen_18 (nI 0) (by decide) ?_
    refine pv_zret d_O_deafen_19 (by first | rfl | decide) ?_
    exact k
  · exact absurd rfl h5

set_option maxRecDepth 100000 in
set_option maxHeartbeats 4000000 in
theorem k_O_deafen_out {post : Int32 → List va_E → Prop} {n : Nat} {y : Int32} (hn : n < 5) (hy : σ 1 n = 0 ∨ y < 0 ∨ nI 20 < y) (k : post (nI 0) (memX σ ++ ρ)) : pv_M l D ty base b 2 0 0 (fun _ => True) y_O_deafen c_O_deafen 3 (some .boolean) [.ref (0 + 1), .int (nI n), .int y] (memX σ ++ ρ) (pv_QI D ty base b post) := by
  refine pv_enter [some (.ref (0 + 1)), some (.int (nI n)), some (.int y)] (by decide) (fun _ => rfl) (fun _ => Nat.le_of_ble_eq_true rfl) ?_
  refine pv_aload_n d_O_deafen_0 rfl rfl ?_
  refine pv_iload_n d_O_deafen_1 rfl rfl ?_
  refine pv_callV1I d_O_deafen_2 (k_O_isUpNode hn ?_) sb_O_isUpNode wm_O_106 gx_O rfl ⟨wi_O_isUpNode, we_O_isUpNode⟩ (by decide) (by decide) (Nat.le_of_ble_eq_true rfl) (by decide) (by decide)
  have hbb := b2_lt (decide (σ 1 n ≠ 0))
  first | refine pv_ifN_eq 18 (by decide) d_O_deafen_5 (by first | assumption | omega) (fun h5 => ?_) (fun h5 => ?_) | refine pv_if_eq 18 (by decide) d_O_deafen_5 (fun h5 => ?_) (fun h5 => ?_)
  · refine pv_iconst d_O_deafen_18 (nI 0) (by decide) ?_
    refine pv_zret d_O_deafen_19 (by first | rfl | decide) ?_
    exact k
  · refine pv_iload_n d_O_deafen_8 rfl rfl ?_
    refine pv_if_lt 18 (by decide) d_O_deafen_9 (fun h9 => ?_) (fun h9 => ?_)
    · refine pv_iconst d_O_deafen_18 (nI 0) (by decide) ?_
      refine pv_zret d_O_deafen_19 (by first | rfl | decide) ?_
      exact k
    · refine pv_iload_n d_O_deafen_12 rfl rfl ?_
      refine pv_bipush d_O_deafen_13 (nI 20) (by decide) ?_
      first | refine pv_icmpN_le 20 (by decide) d_O_deafen_15 (by first | assumption | omega) (by first | assumption | omega) (fun h15 => ?_) (fun h15 => ?_) | refine pv_icmp_le 20 (by decide) d_O_deafen_15 (fun h15 => ?_) (fun h15 => ?_)
      · exact absurd hy (by intro q; rcases q with q | q | q
                            · exact (of_decide_eq_true (b2_n0.mp h5)) q
                            · exact h9 q
                            · exact absurd h15 (Int32.not_le.mpr q))
      · refine pv_iconst d_O_deafen_18 (nI 0) (by decide) ?_
        refine pv_zret d_O_deafen_19 (by first | rfl | decide) ?_
        exact k

set_option maxRecDepth 100000 in
set_option maxHeartbeats 4000000 in
theorem k_O_deafen {post : Int32 → List va_E → Prop} {n j : Nat} (hn : n < 5) (hu : σ 1 n ≠ 0) (hj : j ≤ 20) (k : post (nI 1) (memX (sU σ 8 n j) ++ ρ)) : pv_M l D ty base b 2 0 0 (fun _ => True) y_O_deafen c_O_deafen 3 (some .boolean) [.ref (0 + 1), .int (nI n), .int (nI j)] (memX σ ++ ρ) (pv_QI D ty base b post) := by
  refine pv_enter [some (.ref (0 + 1)), some (.int (nI n)), some (.int (nI j))] (by decide) (fun _ => rfl) (fun _ => Nat.le_of_ble_eq_true rfl) ?_
  refine pv_aload_n d_O_deafen_0 rfl rfl ?_
  refine pv_iload_n d_O_deafen_1 rfl rfl ?_
  refine pv_callV1I d_O_deafen_2 (k_O_isUpNode hn ?_) sb_O_isUpNode wm_O_106 gx_O rfl ⟨wi_O_isUpNode, we_O_isUpNode⟩ (by decide) (by decide) (Nat.le_of_ble_eq_true rfl) (by decide) (by decide)
  have hbb := b2_lt (decide (σ 1 n ≠ 0))
  first | refine pv_ifN_eq 18 (by decide) d_O_deafen_5 (by first | assumption | omega) (fun h5 => ?_) (fun h5 => ?_) | refine pv_if_eq 18 (by decide) d_O_deafen_5 (fun h5 => ?_) (fun h5 => ?_)
  · refine pv_iconst d_O_deafen_18 (nI 0) (by decide) ?_
    refine pv_zret d_O_deafen_19 (by first | rfl | decide) ?_
    exact absurd (Decidable.not_not.mp (of_decide_eq_false (b2_0.mp h5))) hu
  · refine pv_iload_n d_O_deafen_8 rfl rfl ?_
    refine pv_if_lt 18 (by decide) d_O_deafen_9 (fun h9 => ?_) (fun h9 => ?_)
    · refine pv_iconst d_O_deafen_18 (nI 0) (by decide) ?_
      refine pv_zret d_O_deafen_19 (by first | rfl | decide) ?_
      exact absurd h9 (nI_pos (by omega))
    · refine pv_iload_n d_O_deafen_12 rfl rfl ?_
      refine pv_bipush d_O_deafen_13 (nI 20) (by decide) ?_
      first | refine pv_icmpN_le 20 (by decide) d_O_deafen_15 (by first | assumption | omega) (by first | assumption | omega) (fun h15 => ?_) (fun h15 => ?_) | refine pv_icmp_le 20 (by decide) d_O_deafen_15 (fun h15 => ?_) (fun h15 => ?_)
      · refine pv_aload_n d_O_deafen_20 rfl rfl ?_
        refine gO_nodes d_O_deafen_21 ff_O_11 ?_
        refine pv_iload_n d_O_deafen_24 rfl rfl ?_
        refine l_nodes d_O_deafen_25 (by first | assumption | omega) ?_
        refine pv_iload_n d_O_deafen_26 rfl rfl ?_
        refine pN_deafness d_O_deafen_27 ff_O_112 (by first | assumption | omega) ?_
        refine pv_iconst d_O_deafen_30 (nI 1) (by decide) ?_
        refine pv_zret d_O_deafen_31 (by first | rfl | decide) ?_
        exact k
      · refine pv_iconst d_O_deafen_18 (nI 0) (by decide) ?_
        refine pv_zret d_O_deafen_19 (by first | rfl | decide) ?_
        omega

set_option maxRecDepth 100000 in
set_option maxHeartbeats 4000000 in
theorem k_O_drop_no {post : Int32 → List va_E → Prop} {x : Int32} (h : x < 0 ∨ nI 5 ≤ x) (k : post (nI 0) (memX σ ++ ρ)) : pv_M l D ty base b 1 0 0 (fun _ => True) y_O_drop c_O_drop 3 (some .boolean) [.ref (0 + 1), .int x] (memX σ ++ ρ) (pv_QI D ty base b post) := by
  refine pv_enter [some (.ref (0 + 1)), some (.int x), none] (by decide) (fun _ => rfl) (fun _ => Nat.le_of_ble_eq_true rfl) ?_
  refine pv_iload_n d_O_drop_0 rfl rfl ?_
  refine pv_callS1I d_O_drop_1 (k_O_isNode_no h ?_) sb_O_isNode wm_O_39 ws_O_isNode (by decide) (by decide) (Nat.le_of_ble_eq_true rfl) (by decide) (by decide)
  first | refine pv_ifN_ne 9 (by decide) d_O_drop_4 (by first | assumption | omega) (fun h4 => ?_) (fun h4 => ?_) | refine pv_if_ne 9 (by decide) d_O_drop_4 (fun h4 => ?_) (fun h4 => ?_)
  · exact absurd h4 (by decide)
  · refine pv_iconst d_O_drop_7 (nI 0) (by decide) ?_
    refine pv_zret d_O_drop_8 (by first | rfl | decide) ?_
    exact k

set_option maxRecDepth 100000 in
set_option maxHeartbeats 4000000 in
theorem k_O_drop {post : Int32 → List va_E → Prop} {n : Nat} (hn : n < 5) (hb : bX σ) (k : post (a_drop σ n).1 (memX (a_drop σ n).2 ++ ρ)) : pv_M l D ty base b 1 0 0 (fun _ => True) y_O_drop c_O_drop 3 (some .boolean) [.ref (0 + 1), .int (nI n)] (memX σ ++ ρ) (pv_QI D ty base b post) := by
  refine pv_enter [some (.ref (0 + 1)), some (.int (nI n)), none] (by decide) (fun _ => rfl) (fun _ => Nat.le_of_ble_eq_true rfl) ?_
  refine pv_iload_n d_O_drop_0 rfl rfl ?_
  refine pv_callS1I d_O_drop_1 (k_O_isNode hn ?_) sb_O_isNode wm_O_39 ws_O_isNode (by decide) (by decide) (Nat.le_of_ble_eq_true rfl) (by decide) (by decide)
  first | refine pv_ifN_ne 9 (by decide) d_O_drop_4 (by first | assumption | omega) (fun h4 => ?_) (fun h4 => ?_) | refine pv_if_ne 9 (by decide) d_O_drop_4 (fun h4 => ?_) (fun h4 => ?_)
  · refine pv_aload_n d_O_drop_9 rfl rfl ?_
    have hb1 : σ 1 n < 7 := hb 1 n
    refine gO_nodes d_O_drop_10 ff_O_11 ?_
    refine pv_iload_n d_O_drop_13 rfl rfl ?_
    refine l_nodes d_O_drop_14 (by first | assumption | omega) ?_
    refine gN_ring d_O_drop_15 ff_O_60 (by first | assumption | omega) ?_
    refine pv_splitX (fun hnull => ?_) (fun rr hring => ?_)
    · refine pv_a0st2 d_O_drop_18 rfl (by decide) ?_
      refine pv_a0load_n d_O_drop_19 rfl rfl ?_
      refine pv_ifnullN 30 (by decide) d_O_drop_20 ?_
      refine pv_iconst d_O_drop_30 (nI 0) (by decide) ?_
      refine pv_zret d_O_drop_31 (by first | rfl | decide) ?_
      simp only [a_drop, hnull] at k
      exact k
    · refine pv_ast2 d_O_drop_18 rfl (by decide) ?_
      refine pv_aload_n d_O_drop_19 rfl rfl ?_
      refine pv_ifnull d_O_drop_20 ?_
      refine pv_aload_n d_O_drop_23 rfl rfl ?_
      refine pv_callV0I d_O_drop_24 (k_R_isTokenLost (by first | assumption | omega) hb ?_) sb_R_isTokenLost wm_O_115 (gx_R (by first | assumption | omega)) rfl ⟨wi_R_isTokenLost, we_R_isTokenLost⟩ (by decide) (by decide) (Nat.le_of_ble_eq_true rfl) (by decide) (by decide)
      have hbb := b2_lt (decide (σ 12 rr = 0))
      first | refine pv_ifN_eq 32 (by decide) d_O_drop_27 (by first | assumption | omega) (fun h27 => ?_) (fun h27 => ?_) | refine pv_if_eq 32 (by decide) d_O_drop_27 (fun h27 => ?_) (fun h27 => ?_)
      · refine pv_aload_n d_O_drop_32 rfl rfl ?_
        refine pv_iconst d_O_drop_33 (-1) (by decide) ?_
        refine pR_tokenAtM d_O_drop_34 ff_O_64 (by first | assumption | omega) ?_
        refine pv_iconst d_O_drop_37 (nI 1) (by decide) ?_
        refine pv_zret d_O_drop_38 (by first | rfl | decide) ?_
        simp only [a_drop, hring, if_neg (of_decide_eq_false (b2_0.mp h27))] at k
        exact k
      · refine pv_iconst d_O_drop_30 (nI 0) (by decide) ?_
        refine pv_zret d_O_drop_31 (by first | rfl | decide) ?_
        simp only [a_drop, hring, if_pos (of_decide_eq_true (b2_n0.mp h27))] at k
        exact k
  · refine pv_iconst d_O_drop_7 (nI 0) (by decide) ?_
    refine pv_zret d_O_drop_8 (by first | rfl | decide) ?_
    exact absurd h4 (by decide)

set_option maxRecDepth 100000 in
set_option maxHeartbeats 4000000 in
theorem k_O_visit_no {post : Int32 → List va_E → Prop} {x : Int32} (h : x < 0 ∨ nI 5 ≤ x) (k : post (-3) (memX σ ++ ρ)) : pv_M l D ty base b 1 0 0 (fun _ => True) y_O_visit c_O_visit 6 (some .int) [.ref (0 + 1), .int x] (memX σ ++ ρ) (pv_QI D ty base b post) := by
  refine pv_enter [some (.ref (0 + 1)), some (.int x), none, none, none, none] (by decide) (fun _ => rfl) (fun _ => Nat.le_of_ble_eq_true rfl) ?_
  refine pv_iload_n d_O_visit_0 rfl rfl ?_
  refine pv_callS1I d_O_visit_1 (k_O_isNode_no h ?_) sb_O_isNode wm_O_39 ws_O_isNode (by decide) (by decide) (Nat.le_of_ble_eq_true rfl) (by decide) (by decide)
  first | refine pv_ifN_ne 10 (by decide) d_O_visit_4 (by first | assumption | omega) (fun h4 => ?_) (fun h4 => ?_) | refine pv_if_ne 10 (by decide) d_O_visit_4 (fun h4 => ?_) (fun h4 => ?_)
  · exact absurd h4 (by decide)
  · refine pv_bipush d_O_visit_7 (-3) (by decide) ?_
    refine pv_iret d_O_visit_9 ?_
    exact k

set_option maxRecDepth 100000 in
set_option maxHeartbeats 4000000 in
theorem k_O_visit {post : Int32 → List va_E → Prop} {n : Nat} (hn : n < 5) (hb : bX σ) (h0 : σ 0 0 + 1 < 600) (k : post (a_visit σ n).1 (memX (a_visit σ n).2 ++ ρ)) : pv_M l D ty base b 5 0 0 (fun _ => True) y_O_visit c_O_visit 6 (some .int) [.ref (0 + 1), .int (nI n)] (memX σ ++ ρ) (pv_QI D ty base b post) := by
  refine pv_enter [some (.ref (0 + 1)), some (.int (nI n)), none, none, none, none] (by decide) (fun _ => rfl) (fun _ => Nat.le_of_ble_eq_true rfl) ?_
  refine pv_iload_n d_O_visit_0 rfl rfl ?_
  refine pv_callS1I d_O_visit_1 (k_O_isNode hn ?_) sb_O_isNode wm_O_39 ws_O_isNode (by decide) (by decide) (Nat.le_of_ble_eq_true rfl) (by decide) (by decide)
  first | refine pv_ifN_ne 10 (by decide) d_O_visit_4 (by first | assumption | omega) (fun h4 => ?_) (fun h4 => ?_) | refine pv_if_ne 10 (by decide) d_O_visit_4 (fun h4 => ?_) (fun h4 => ?_)
  · refine pv_aload_n d_O_visit_10 rfl rfl ?_
    have hb1 : σ 1 n < 7 := hb 1 n
    refine gO_nodes d_O_visit_11 ff_O_11 ?_
    refine pv_iload_n d_O_visit_14 rfl rfl ?_
    refine l_nodes d_O_visit_15 (by first | assumption | omega) ?_
    refine pv_ast2 d_O_visit_16 rfl (by decide) ?_
    refine pv_aload_n d_O_visit_17 rfl rfl ?_
    refine gN_ring d_O_visit_18 ff_O_60 (by first | assumption | omega) ?_
    refine pv_splitX (fun hnull => ?_) (fun rr hring => ?_)
    · refine pv_a0st3 d_O_visit_21 rfl (by decide) ?_
      refine pv_a0load_n d_O_visit_22 rfl rfl ?_
      refine pv_ifnonnullN d_O_visit_23 ?_
      refine pv_bipush d_O_visit_26 (-2) (by decide) ?_
      refine pv_iret d_O_visit_28 ?_
      simp only [a_visit, hnull] at k
      exact k
    · refine pv_ast3 d_O_visit_21 rfl (by decide) ?_
      refine pv_aload_n d_O_visit_22 rfl rfl ?_
      refine pv_ifnonnull 29 (by decide) d_O_visit_23 ?_
      refine pv_aload_n d_O_visit_29 rfl rfl ?_
      refine gR_tokenAt d_O_visit_30 ff_O_64 (by first | assumption | omega) ?_
      refine pv_iload_n d_O_visit_33 rfl rfl ?_
      first | refine pv_icmpN_eq 39 (by decide) d_O_visit_34 (by first | assumption | omega) (by first | assumption | omega) (fun h34 => ?_) (fun h34 => ?_) | refine pv_icmp_eq 39 (by decide) d_O_visit_34 (fun h34 => ?_) (fun h34 => ?_)
      · have hr : rr < 6 := by omega
        refine pv_aload_n d_O_visit_39 rfl rfl ?_
        refine pv_aload_n d_O_visit_40 rfl rfl ?_
        refine pv_aload_n d_O_visit_41 rfl rfl ?_
        refine pv_callV2I d_O_visit_42 (k_O_broadcastRequests hn hr hb ?_) sb_O_broadcastRequests wm_O_67 gx_O rfl ⟨wi_O_broadcastRequests, we_O_broadcastRequests⟩ (by decide) (by decide) (Nat.le_of_ble_eq_true rfl) (by decide) (by decide)
        refine pv_ist4 d_O_visit_45 rfl (by decide) ?_
        refine pv_aload_n d_O_visit_47 rfl rfl ?_
        refine pv_aload_n d_O_visit_48 rfl rfl ?_
        refine pv_aload_n d_O_visit_49 rfl rfl ?_
        refine pv_callV2I d_O_visit_50 (k_O_broadcastNew hn hr (bX_rq hb 48 (by decide)) ?_) sb_O_broadcastNew wm_O_71 gx_O rfl ⟨wi_O_broadcastNew, we_O_broadcastNew⟩ (by decide) (by decide) (Nat.le_of_ble_eq_true rfl) (by decide) (by decide)
        refine pv_ist5 d_O_visit_53 rfl (by decide) ?_
        refine pv_aload_n d_O_visit_55 rfl rfl ?_
        refine pv_aload_n d_O_visit_56 rfl rfl ?_
        refine pv_callV1V d_O_visit_57 (k_R_markAndRequest hr hn (bX_s1 hb hn hr) ?_) sb_R_markAndRequest wm_O_74 (gx_R (by first | assumption | omega)) rfl ⟨wi_R_markAndRequest, we_R_markAndRequest⟩ (by decide) (by decide) (Nat.le_of_ble_eq_true rfl) (by decide) (by decide)
        refine pv_aload_n d_O_visit_60 rfl rfl ?_
        refine pv_aload_n d_O_visit_61 rfl rfl ?_
        refine pv_callV0I d_O_visit_62 (k_R_leastMark hr (bX_s2 hb hn hr) ?_) sb_R_leastMark wm_O_78 (gx_R (by first | assumption | omega)) rfl ⟨wi_R_leastMark, we_R_leastMark⟩ (by decide) (by decide) (Nat.le_of_ble_eq_true rfl) (by decide) (by decide)
        refine pN_line d_O_visit_65 ff_O_82 (by first | assumption | omega) ?_
        refine pv_aload_n d_O_visit_68 rfl rfl ?_
        refine pv_aload_n d_O_visit_69 rfl rfl ?_
        refine pv_callV1V d_O_visit_70 (k_O_deliverInRing hr (bX_s3 hb hn hr) ?_) sb_O_deliverInRing wm_O_85 gx_O rfl ⟨wi_O_deliverInRing, we_O_deliverInRing⟩ (by decide) (by decide) (Nat.le_of_ble_eq_true rfl) (by decide) (by decide)
        refine pv_aload_n d_O_visit_73 rfl rfl ?_
        refine pv_iconst d_O_visit_74 (nI 0) (by decide) ?_
        refine pN_timer d_O_visit_75 ff_O_89 (by first | assumption | omega) ?_
        refine pv_aload_n d_O_visit_78 rfl rfl ?_
        refine pv_aload_n d_O_visit_79 rfl rfl ?_
        refine pv_callV1I d_O_visit_80 (k_O_hasStranger hn (bX_s4 hb hn hr) ?_) sb_O_hasStranger wm_O_92 gx_O rfl ⟨wi_O_hasStranger, we_O_hasStranger⟩ (by decide) (by decide) (Nat.le_of_ble_eq_true rfl) (by decide) (by decide)
        have hbb := b2_lt (x_st (v_s4 σ n rr) n 5 0)
        first | refine pv_ifN_eq 97 (by decide) d_O_visit_83 (by first | assumption | omega) (fun h83 => ?_) (fun h83 => ?_) | refine pv_if_eq 97 (by decide) d_O_visit_83 (fun h83 => ?_) (fun h83 => ?_)
        · refine pv_aload_n d_O_visit_97 rfl rfl ?_
          refine pv_aload_n d_O_visit_98 rfl rfl ?_
          refine pv_aload_n d_O_visit_99 rfl rfl ?_
          refine pv_callV2V d_O_visit_100 (k_O_passToken hn hr (bX_s4 hb hn hr) ?_) sb_O_passToken wm_O_102 gx_O rfl ⟨wi_O_passToken, we_O_passToken⟩ (by decide) (by decide) (Nat.le_of_ble_eq_true rfl) (by decide) (by decide)
          refine pv_iload d_O_visit_103 rfl ?_
          refine pv_iload d_O_visit_105 rfl ?_
          first | refine pv_iaddN d_O_visit_107 ?_ | refine pv_iadd d_O_visit_107 ?_
          refine pv_iret d_O_visit_108 ?_
          have h9 := (tk_eq (Nat.lt_of_lt_of_le (hb 12 rr) (by decide)) (by omega)).mp h34
          simp only [a_visit, hring, if_pos h9] at k
          have h84 : b2 (x_st (v_s4 σ n rr) n 5 0) = 0 := h83
          rw [v_s5, if_neg (by rw [b2_0.mp h84]; decide)] at k
          exact k
        · refine pv_aload_n d_O_visit_86 rfl rfl ?_
          refine pv_aload_n d_O_visit_87 rfl rfl ?_
          refine gN_area d_O_visit_88 ff_O_96 (by first | assumption | omega) ?_
          refine pv_callV1V d_O_visit_91 (k_O_formAnew (Nat.lt_of_lt_of_le (bX_s4 hb hn hr 5 n) (by decide)) (bX_s4 hb hn hr) (by show v_s4 σ n rr 0 0 + 1 < 600; rw [v_s4_ne (Or.inl rfl)]; exact h0) ?_) sb_O_formAnew wm_O_99 gx_O rfl ⟨wi_O_formAnew, we_O_formAnew⟩ (by decide) (by decide) (Nat.le_of_ble_eq_true rfl) (by decide) (by decide)
          refine pv_goto 103 (by decide) d_O_visit_94 ?_
          refine pv_iload d_O_visit_103 rfl ?_
          refine pv_iload d_O_visit_105 rfl ?_
          first | refine pv_iaddN d_O_visit_107 ?_ | refine pv_iadd d_O_visit_107 ?_
          refine pv_iret d_O_visit_108 ?_
          have h9 := (tk_eq (Nat.lt_of_lt_of_le (hb 12 rr) (by decide)) (by omega)).mp h34
          simp only [a_visit, hring, if_pos h9] at k
          have h84 : ¬ b2 (x_st (v_s4 σ n rr) n 5 0) = 0 := h83
          rw [v_s5, if_pos (b2_n0.mp h84)] at k
          exact k
      · refine pv_iconst d_O_visit_37 (-1) (by decide) ?_
        refine pv_iret d_O_visit_38 ?_
        have h9 := mt (tk_eq (Nat.lt_of_lt_of_le (hb 12 rr) (by decide)) (by omega)).mpr h34
        simp only [a_visit, hring, if_neg h9] at k
        exact k
  · refine pv_bipush d_O_visit_7 (-3) (by decide) ?_
    refine pv_iret d_O_visit_9 ?_
    exact absurd h4 (by decide)

end PUB2
end
