/-! decode rows, by program out of the listing -/
theorem d_N_init_22 : decode c_N_init 22 = .ok (.putfield 19, 3) := by decide +kernel
theorem d_N_init_25 : decode c_N_init 25 = .ok (.return_, 1) := by decide +kernel
theorem d_N_isUp_0 : decode c_N_isUp 0 = .ok (.aload_n 0, 1) := by decide +kernel
theorem d_N_isUp_1 : decode c_N_isUp 1 = .ok (.getfield 22, 3) := by decide +kernel
theorem d_N_isUp_4 : decode c_N_isUp 4 = .ok (.ifnull 7, 3) := by decide +kernel
theorem d_N_isUp_7 : decode c_N_isUp 7 = .ok (.iconst 1, 1) := by decide +kernel
theorem d_N_isUp_8 : decode c_N_isUp 8 = .ok (.goto 4, 3) := by decide +kernel
theorem d_N_isUp_11 : decode c_N_isUp 11 = .ok (.iconst 0, 1) := by decide +kernel
theorem d_N_isUp_12 : decode c_N_isUp 12 = .ok (.ireturn, 1) := by decide +kernel
theorem d_N_holds_0 : decode c_N_holds 0 = .ok (.aload_n 0, 1) := by decide +kernel
theorem d_N_holds_1 : decode c_N_holds 1 = .ok (.getfield 26, 3) := by decide +kernel
theorem d_N_holds_4 : decode c_N_holds 4 = .ok (.lconst 1, 1) := by decide +kernel
theorem d_N_holds_5 : decode c_N_holds 5 = .ok (.iload_n 1, 1) := by decide +kernel
theorem d_N_holds_6 : decode c_N_holds 6 = .ok (.lshl, 1) := by decide +kernel
theorem d_N_holds_7 : decode c_N_holds 7 = .ok (.land, 1) := by decide +kernel
theorem d_N_holds_8 : decode c_N_holds 8 = .ok (.lconst 0, 1) := by decide +kernel
theorem d_N_holds_9 : decode c_N_holds 9 = .ok (.lcmp, 1) := by decide +kernel
theorem d_N_holds_10 : decode c_N_holds 10 = .ok (.ifCond .eq 7, 3) := by decide +kernel
theorem d_N_holds_13 : decode c_N_holds 13 = .ok (.iconst 1, 1) := by decide +kernel
theorem d_N_holds_14 : decode c_N_holds 14 = .ok (.goto 4, 3) := by decide +kernel
theorem d_N_holds_17 : decode c_N_holds 17 = .ok (.iconst 0, 1) := by decide +kernel
theorem d_N_holds_18 : decode c_N_holds 18 = .ok (.ireturn, 1) := by decide +kernel
theorem d_N_hold_0 : decode c_N_hold 0 = .ok (.aload_n 0, 1) := by decide +kernel
theorem d_N_hold_1 : decode c_N_hold 1 = .ok (.dup, 1) := by decide +kernel
theorem d_N_hold_2 : decode c_N_hold 2 = .ok (.getfield 26, 3) := by decide +kernel
theorem d_N_hold_5 : decode c_N_hold 5 = .ok (.lconst 1, 1) := by decide +kernel
theorem d_N_hold_6 : decode c_N_hold 6 = .ok (.iload_n 1, 1) := by decide +kernel
theorem d_N_hold_7 : decode c_N_hold 7 = .ok (.lshl, 1) := by decide +kernel
theorem d_N_hold_8 : decode c_N_hold 8 = .ok (.lor, 1) := by decide +kernel
theorem d_N_hold_9 : decode c_N_hold 9 = .ok (.putfield 26, 3) := by decide +kernel
theorem d_N_hold_12 : decode c_N_hold 12 = .ok (.return_, 1) := by decide +kernel
theorem d_N_receive_0 : decode c_N_receive 0 = .ok (.aload_n 0, 1) := by decide +kernel
theorem d_N_receive_1 : decode c_N_receive 1 = .ok (.getfield 30, 3) := by decide +kernel
theorem d_N_receive_4 : decode c_N_receive 4 = .ok (.ifCond .le 16, 3) := by decide +kernel
theorem d_N_receive_7 : decode c_N_receive 7 = .ok (.aload_n 0, 1) := by decide +kernel
theorem d_N_receive_8 : decode c_N_receive 8 = .ok (.dup, 1) := by decide +kernel
theorem d_N_receive_9 : decode c_N_receive 9 = .ok (.getfield 30, 3) := by decide +kernel
theorem d_N_receive_12 : decode c_N_receive 12 = .ok (.iconst 1, 1) := by decide +kernel
theorem d_N_receive_13 : decode c_N_receive 13 = .ok (.isub, 1) := by decide +kernel
theorem d_N_receive_14 : decode c_N_receive 14 = .ok (.putfield 30, 3) := by decide +kernel
theorem d_N_receive_17 : decode c_N_receive 17 = .ok (.goto 8, 3) := by decide +kernel
theorem d_N_receive_20 : decode c_N_receive 20 = .ok (.aload_n 0, 1) := by decide +kernel
theorem d_N_receive_21 : decode c_N_receive 21 = .ok (.iload_n 1, 1) := by decide +kernel
theorem d_N_receive_22 : decode c_N_receive 22 = .ok (.invokevirtual 33, 3) := by decide +kernel
theorem d_N_receive_25 : decode c_N_receive 25 = .ok (.return_, 1) := by decide +kernel
theorem d_N_heldWithoutGap_0 : decode c_N_heldWithoutGap 0 = .ok (.iconst 0, 1) := by decide +kernel
theorem d_N_heldWithoutGap_1 : decode c_N_heldWithoutGap 1 = .ok (.istore_n 1, 1) := by decide +kernel
theorem d_N_heldWithoutGap_2 : decode c_N_heldWithoutGap 2 = .ok (.iload_n 1, 1) := by decide +kernel
theorem d_N_heldWithoutGap_3 : decode c_N_heldWithoutGap 3 = .ok (.bipush 48, 2) := by decide +kernel
theorem d_N_heldWithoutGap_5 : decode c_N_heldWithoutGap 5 = .ok (.if_icmp .ge 19, 3) := by decide +kernel
theorem d_N_heldWithoutGap_8 : decode c_N_heldWithoutGap 8 = .ok (.aload_n 0, 1) := by decide +kernel
theorem d_N_heldWithoutGap_9 : decode c_N_heldWithoutGap 9 = .ok (.iload_n 1, 1) := by decide +kernel
theorem d_N_heldWithoutGap_10 : decode c_N_heldWithoutGap 10 = .ok (.iconst 1, 1) := by decide +kernel
theorem d_N_heldWithoutGap_11 : decode c_N_heldWithoutGap 11 = .ok (.iadd, 1) := by decide +kernel
theorem d_N_heldWithoutGap_12 : decode c_N_heldWithoutGap 12 = .ok (.invokevirtual 37, 3) := by decide +kernel
theorem d_N_heldWithoutGap_15 : decode c_N_heldWithoutGap 15 = .ok (.ifCond .eq 9, 3) := by decide +kernel
theorem d_N_heldWithoutGap_18 : decode c_N_heldWithoutGap 18 = .ok (.iinc 1 1, 3) := by decide +kernel
theorem d_N_heldWithoutGap_21 : decode c_N_heldWithoutGap 21 = .ok (.goto (-19), 3) := by decide +kernel
theorem d_N_heldWithoutGap_24 : decode c_N_heldWithoutGap 24 = .ok (.iload_n 1, 1) := by decide +kernel
theorem d_N_heldWithoutGap_25 : decode c_N_heldWithoutGap 25 = .ok (.ireturn, 1) := by decide +kernel
theorem d_N_enqueue_0 : decode c_N_enqueue 0 = .ok (.aload_n 0, 1) := by decide +kernel
theorem d_N_enqueue_1 : decode c_N_enqueue 1 = .ok (.getfield 41, 3) := by decide +kernel
theorem d_N_enqueue_4 : decode c_N_enqueue 4 = .ok (.bipush 8, 2) := by decide +kernel
theorem d_N_enqueue_6 : decode c_N_enqueue 6 = .ok (.if_icmp .ge 23, 3) := by decide +kernel
theorem d_N_enqueue_9 : decode c_N_enqueue 9 = .ok (.aload_n 0, 1) := by decide +kernel
theorem d_N_enqueue_10 : decode c_N_enqueue 10 = .ok (.getfield 15, 3) := by decide +kernel
theorem d_N_enqueue_13 : decode c_N_enqueue 13 = .ok (.aload_n 0, 1) := by decide +kernel
theorem d_N_enqueue_14 : decode c_N_enqueue 14 = .ok (.getfield 41, 3) := by decide +kernel
theorem d_N_enqueue_17 : decode c_N_enqueue 17 = .ok (.iload_n 1, 1) := by decide +kernel
theorem d_N_enqueue_18 : decode c_N_enqueue 18 = .ok (.iastore, 1) := by decide +kernel
theorem d_N_enqueue_19 : decode c_N_enqueue 19 = .ok (.aload_n 0, 1) := by decide +kernel
theorem d_N_enqueue_20 : decode c_N_enqueue 20 = .ok (.dup, 1) := by decide +kernel
theorem d_N_enqueue_21 : decode c_N_enqueue 21 = .ok (.getfield 41, 3) := by decide +kernel
theorem d_N_enqueue_24 : decode c_N_enqueue 24 = .ok (.iconst 1, 1) := by decide +kernel
theorem d_N_enqueue_25 : decode c_N_enqueue 25 = .ok (.iadd, 1) := by decide +kernel
theorem d_N_enqueue_26 : decode c_N_enqueue 26 = .ok (.putfield 41, 3) := by decide +kernel
theorem d_N_enqueue_29 : decode c_N_enqueue 29 = .ok (.return_, 1) := by decide +kernel
theorem d_N_dequeue_0 : decode c_N_dequeue 0 = .ok (.aload_n 0, 1) := by decide +kernel
theorem d_N_dequeue_1 : decode c_N_dequeue 1 = .ok (.getfield 15, 3) := by decide +kernel
theorem d_N_dequeue_4 : decode c_N_dequeue 4 = .ok (.iconst 0, 1) := by decide +kernel
theorem d_N_dequeue_5 : decode c_N_dequeue 5 = .ok (.iaload, 1) := by decide +kernel
theorem d_N_dequeue_6 : decode c_N_dequeue 6 = .ok (.istore_n 1, 1) := by decide +kernel
theorem d_N_dequeue_7 : decode c_N_dequeue 7 = .ok (.iconst 1, 1) := by decide +kernel
theorem d_N_dequeue_8 : decode c_N_dequeue 8 = .ok (.istore_n 2, 1) := by decide +kernel
theorem d_N_dequeue_9 : decode c_N_dequeue 9 = .ok (.iload_n 2, 1) := by decide +kernel
theorem d_N_dequeue_10 : decode c_N_dequeue 10 = .ok (.aload_n 0, 1) := by decide +kernel
theorem d_N_dequeue_11 : decode c_N_dequeue 11 = .ok (.getfield 41, 3) := by decide +kernel
theorem d_N_dequeue_14 : decode c_N_dequeue 14 = .ok (.if_icmp .ge 23, 3) := by decide +kernel
theorem d_N_dequeue_17 : decode c_N_dequeue 17 = .ok (.aload_n 0, 1) := by decide +kernel
theorem d_N_dequeue_18 : decode c_N_dequeue 18 = .ok (.getfield 15, 3) := by decide +kernel
theorem d_N_dequeue_21 : decode c_N_dequeue 21 = .ok (.iload_n 2, 1) := by decide +kernel
theorem d_N_dequeue_22 : decode c_N_dequeue 22 = .ok (.iconst 1, 1) := by decide +kernel
theorem d_N_dequeue_23 : decode c_N_dequeue 23 = .ok (.isub, 1) := by decide +kernel
theorem d_N_dequeue_24 : decode c_N_dequeue 24 = .ok (.aload_n 0, 1) := by decide +kernel
theorem d_N_dequeue_25 : decode c_N_dequeue 25 = .ok (.getfield 15, 3) := by decide +kernel
theorem d_N_dequeue_28 : decode c_N_dequeue 28 = .ok (.iload_n 2, 1) := by decide +kernel
theorem d_N_dequeue_29 : decode c_N_dequeue 29 = .ok (.iaload, 1) := by decide +kernel
theorem d_N_dequeue_30 : decode c_N_dequeue 30 = .ok (.iastore, 1) := by decide +kernel
theorem d_N_dequeue_31 : decode c_N_dequeue 31 = .ok (.iinc 2 1, 3) := by decide +kernel
theorem d_N_dequeue_34 : decode c_N_dequeue 34 = .ok (.goto (-25), 3) := by decide +kernel
theorem d_N_dequeue_37 : decode c_N_dequeue 37 = .ok (.aload_n 0, 1) := by decide +kernel
theorem d_N_dequeue_38 : decode c_N_dequeue 38 = .ok (.iconst 0, 1) := by decide +kernel
theorem d_N_dequeue_39 : decode c_N_dequeue 39 = .ok (.aload_n 0, 1) := by decide +kernel
theorem d_N_dequeue_40 : decode c_N_dequeue 40 = .ok (.getfield 41, 3) := by decide +kernel
theorem d_N_dequeue_43 : decode c_N_dequeue 43 = .ok (.iconst 1, 1) := by decide +kernel
theorem d_N_dequeue_44 : decode c_N_dequeue 44 = .ok (.isub, 1) := by decide +kernel
theorem d_N_dequeue_45 : decode c_N_dequeue 45 = .ok (.invokestatic 44, 3) := by decide +kernel
theorem d_N_dequeue_48 : decode c_N_dequeue 48 = .ok (.putfield 41, 3) := by decide +kernel
theorem d_N_dequeue_51 : decode c_N_dequeue 51 = .ok (.iload_n 1, 1) := by decide +kernel
theorem d_N_dequeue_52 : decode c_N_dequeue 52 = .ok (.ireturn, 1) := by decide +kernel
theorem d_N_append_0 : decode c_N_append 0 = .ok (.aload_n 0, 1) := by decide +kernel
theorem d_N_append_1 : decode c_N_append 1 = .ok (.getfield 50, 3) := by decide +kernel
theorem d_N_append_4 : decode c_N_append 4 = .ok (.bipush 48, 2) := by decide +kernel
theorem d_N_append_6 : decode c_N_append 6 = .ok (.if_icmp .ge 23, 3) := by decide +kernel
theorem d_N_append_9 : decode c_N_append 9 = .ok (.aload_n 0, 1) := by decide +kernel
theorem d_N_append_10 : decode c_N_append 10 = .ok (.getfield 19, 3) := by decide +kernel
theorem d_N_append_13 : decode c_N_append 13 = .ok (.aload_n 0, 1) := by decide +kernel
theorem d_N_append_14 : decode c_N_append 14 = .ok (.getfield 50, 3) := by decide +kernel
theorem d_N_append_17 : decode c_N_append 17 = .ok (.iload_n 1, 1) := by decide +kernel
theorem d_N_append_18 : decode c_N_append 18 = .ok (.iastore, 1) := by decide +kernel
theorem d_N_append_19 : decode c_N_append 19 = .ok (.aload_n 0, 1) := by decide +kernel
theorem d_N_append_20 : decode c_N_append 20 = .ok (.dup, 1) := by decide +kernel
theorem d_N_append_21 : decode c_N_append 21 = .ok (.getfield 50, 3) := by decide +kernel
theorem d_N_append_24 : decode c_N_append 24 = .ok (.iconst 1, 1) := by decide +kernel
theorem d_N_append_25 : decode c_N_append 25 = .ok (.iadd, 1) := by decide +kernel
theorem d_N_append_26 : decode c_N_append 26 = .ok (.putfield 50, 3) := by decide +kernel
theorem d_N_append_29 : decode c_N_append 29 = .ok (.return_, 1) := by decide +kernel
theorem d_N_enter_0 : decode c_N_enter 0 = .ok (.aload_n 0, 1) := by decide +kernel
theorem d_N_enter_1 : decode c_N_enter 1 = .ok (.invokevirtual 53, 3) := by decide +kernel
theorem d_N_enter_4 : decode c_N_enter 4 = .ok (.aload_n 0, 1) := by decide +kernel
theorem d_N_enter_5 : decode c_N_enter 5 = .ok (.aload_n 1, 1) := by decide +kernel
theorem d_N_enter_6 : decode c_N_enter 6 = .ok (.putfield 22, 3) := by decide +kernel
theorem d_N_enter_9 : decode c_N_enter 9 = .ok (.return_, 1) := by decide +kernel
theorem d_N_leaveRing_0 : decode c_N_leaveRing 0 = .ok (.aload_n 0, 1) := by decide +kernel
theorem d_N_leaveRing_1 : decode c_N_leaveRing 1 = .ok (.getfield 22, 3) := by decide +kernel
theorem d_N_leaveRing_4 : decode c_N_leaveRing 4 = .ok (.ifnull 25, 3) := by decide +kernel
theorem d_N_leaveRing_7 : decode c_N_leaveRing 7 = .ok (.aload_n 0, 1) := by decide +kernel
theorem d_N_leaveRing_8 : decode c_N_leaveRing 8 = .ok (.getfield 22, 3) := by decide +kernel
theorem d_N_leaveRing_11 : decode c_N_leaveRing 11 = .ok (.getfield 56, 3) := by decide +kernel
theorem d_N_leaveRing_14 : decode c_N_leaveRing 14 = .ok (.aload_n 0, 1) := by decide +kernel
theorem d_N_leaveRing_15 : decode c_N_leaveRing 15 = .ok (.getfield 9, 3) := by decide +kernel
theorem d_N_leaveRing_18 : decode c_N_leaveRing 18 = .ok (.if_icmp .ne 11, 3) := by decide +kernel
theorem d_N_leaveRing_21 : decode c_N_leaveRing 21 = .ok (.aload_n 0, 1) := by decide +kernel
theorem d_N_leaveRing_22 : decode c_N_leaveRing 22 = .ok (.getfield 22, 3) := by decide +kernel
theorem d_N_leaveRing_25 : decode c_N_leaveRing 25 = .ok (.iconst (-1), 1) := by decide +kernel
theorem d_N_leaveRing_26 : decode c_N_leaveRing 26 = .ok (.putfield 56, 3) := by decide +kernel
theorem d_N_leaveRing_29 : decode c_N_leaveRing 29 = .ok (.aload_n 0, 1) := by decide +kernel
theorem d_N_leaveRing_30 : decode c_N_leaveRing 30 = .ok (.aconst_null, 1) := by decide +kernel
theorem d_N_leaveRing_31 : decode c_N_leaveRing 31 = .ok (.putfield 22, 3) := by decide +kernel
theorem d_N_leaveRing_34 : decode c_N_leaveRing 34 = .ok (.aload_n 0, 1) := by decide +kernel
theorem d_N_leaveRing_35 : decode c_N_leaveRing 35 = .ok (.lconst 0, 1) := by decide +kernel
theorem d_N_leaveRing_36 : decode c_N_leaveRing 36 = .ok (.putfield 26, 3) := by decide +kernel
theorem d_N_leaveRing_39 : decode c_N_leaveRing 39 = .ok (.aload_n 0, 1) := by decide +kernel
theorem d_N_leaveRing_40 : decode c_N_leaveRing 40 = .ok (.iconst 0, 1) := by decide +kernel
theorem d_N_leaveRing_41 : decode c_N_leaveRing 41 = .ok (.putfield 61, 3) := by decide +kernel
theorem d_N_leaveRing_44 : decode c_N_leaveRing 44 = .ok (.aload_n 0, 1) := by decide +kernel
theorem d_N_leaveRing_45 : decode c_N_leaveRing 45 = .ok (.iconst 0, 1) := by decide +kernel
theorem d_N_leaveRing_46 : decode c_N_leaveRing 46 = .ok (.putfield 64, 3) := by decide +kernel
theorem d_N_leaveRing_49 : decode c_N_leaveRing 49 = .ok (.aload_n 0, 1) := by decide +kernel
theorem d_N_leaveRing_50 : decode c_N_leaveRing 50 = .ok (.iconst 0, 1) := by decide +kernel
theorem d_N_leaveRing_51 : decode c_N_leaveRing 51 = .ok (.putfield 67, 3) := by decide +kernel
theorem d_N_leaveRing_54 : decode c_N_leaveRing 54 = .ok (.return_, 1) := by decide +kernel
theorem d_N_goDown_0 : decode c_N_goDown 0 = .ok (.aload_n 0, 1) := by decide +kernel
theorem d_N_goDown_1 : decode c_N_goDown 1 = .ok (.invokevirtual 53, 3) := by decide +kernel
theorem d_N_goDown_4 : decode c_N_goDown 4 = .ok (.aload_n 0, 1) := by decide +kernel
theorem d_N_goDown_5 : decode c_N_goDown 5 = .ok (.iconst 0, 1) := by decide +kernel
theorem d_N_goDown_6 : decode c_N_goDown 6 = .ok (.putfield 41, 3) := by decide +kernel
theorem d_N_goDown_9 : decode c_N_goDown 9 = .ok (.aload_n 0, 1) := by decide +kernel
theorem d_N_goDown_10 : decode c_N_goDown 10 = .ok (.iconst 0, 1) := by decide +kernel
theorem d_N_goDown_11 : decode c_N_goDown 11 = .ok (.putfield 30, 3) := by decide +kernel
theorem d_N_goDown_14 : decode c_N_goDown 14 = .ok (.return_, 1) := by decide +kernel
theorem d_R_init_0 : decode c_R_init 0 = .ok (.aload_n 0, 1) := by decide +kernel
theorem d_R_init_1 : decode c_R_init 1 = .ok (.invokespecial 3, 3) := by decide +kernel
theorem d_R_init_4 : decode c_R_init 4 = .ok (.aload_n 0, 1) := by decide +kernel
theorem d_R_init_5 : decode c_R_init 5 = .ok (.bipush 49, 2) := by decide +kernel
theorem d_R_init_7 : decode c_R_init 7 = .ok (.newarray .int, 2) := by decide +kernel
theorem d_R_init_9 : decode c_R_init 9 = .ok (.putfield 9, 3) := by decide +kernel
theorem d_R_init_12 : decode c_R_init 12 = .ok (.aload_n 0, 1) := by decide +kernel
theorem d_R_init_13 : decode c_R_init 13 = .ok (.iconst 5, 1) := by decide +kernel
theorem d_R_init_14 : decode c_R_init 14 = .ok (.newarray .int, 2) := by decide +kernel
theorem d_R_init_16 : decode c_R_init 16 = .ok (.putfield 15, 3) := by decide +kernel
theorem d_R_init_19 : decode c_R_init 19 = .ok (.aload_n 0, 1) := by decide +kernel
theorem d_R_init_20 : decode c_R_init 20 = .ok (.iconst (-1), 1) := by decide +kernel
theorem d_R_init_21 : decode c_R_init 21 = .ok (.putfield 18, 3) := by decide +kernel
theorem d_R_init_24 : decode c_R_init 24 = .ok (.return_, 1) := by decide +kernel
theorem d_R_form_0 : decode c_R_form 0 = .ok (.aload_n 0, 1) := by decide +kernel
theorem d_R_form_1 : decode c_R_form 1 = .ok (.iload_n 1, 1) := by decide +kernel
theorem d_R_form_2 : decode c_R_form 2 = .ok (.putfield 22, 3) := by decide +kernel
theorem d_R_form_5 : decode c_R_form 5 = .ok (.aload_n 0, 1) := by decide +kernel
theorem d_R_form_6 : decode c_R_form 6 = .ok (.iload_n 2, 1) := by decide +kernel
theorem d_R_form_7 : decode c_R_form 7 = .ok (.putfield 25, 3) := by decide +kernel
theorem d_R_form_10 : decode c_R_form 10 = .ok (.aload_n 0, 1) := by decide +kernel
theorem d_R_form_11 : decode c_R_form 11 = .ok (.aload_n 0, 1) := by decide +kernel
theorem d_R_form_12 : decode c_R_form 12 = .ok (.iconst 4, 1) := by decide +kernel
theorem d_R_form_13 : decode c_R_form 13 = .ok (.invokevirtual 28, 3) := by decide +kernel
theorem d_R_form_16 : decode c_R_form 16 = .ok (.putfield 18, 3) := by decide +kernel
theorem d_R_form_19 : decode c_R_form 19 = .ok (.aload_n 0, 1) := by decide +kernel
theorem d_R_form_20 : decode c_R_form 20 = .ok (.iconst 0, 1) := by decide +kernel
theorem d_R_form_21 : decode c_R_form 21 = .ok (.putfield 32, 3) := by decide +kernel
theorem d_R_form_24 : decode c_R_form 24 = .ok (.aload_n 0, 1) := by decide +kernel
theorem d_R_form_25 : decode c_R_form 25 = .ok (.lconst 0, 1) := by decide +kernel
theorem d_R_form_26 : decode c_R_form 26 = .ok (.putfield 35, 3) := by decide +kernel
theorem d_R_form_29 : decode c_R_form 29 = .ok (.iconst 0, 1) := by decide +kernel
theorem d_R_form_30 : decode c_R_form 30 = .ok (.istore_n 3, 1) := by decide +kernel
theorem d_R_form_31 : decode c_R_form 31 = .ok (.iload_n 3, 1) := by decide +kernel
theorem d_R_form_32 : decode c_R_form 32 = .ok (.iconst 5, 1) := by decide +kernel
theorem d_R_form_33 : decode c_R_form 33 = .ok (.if_icmp .ge 16, 3) := by decide +kernel
theorem d_R_form_36 : decode c_R_form 36 = .ok (.aload_n 0, 1) := by decide +kernel
theorem d_R_form_37 : decode c_R_form 37 = .ok (.getfield 15, 3) := by decide +kernel
theorem d_R_form_40 : decode c_R_form 40 = .ok (.iload_n 3, 1) := by decide +kernel
theorem d_R_form_41 : decode c_R_form 41 = .ok (.iconst 0, 1) := by decide +kernel
theorem d_R_form_42 : decode c_R_form 42 = .ok (.iastore, 1) := by decide +kernel
theorem d_R_form_43 : decode c_R_form 43 = .ok (.iinc 3 1, 3) := by decide +kernel
theorem d_R_form_46 : decode c_R_form 46 = .ok (.goto (-15), 3) := by decide +kernel
theorem d_R_form_49 : decode c_R_form 49 = .ok (.return_, 1) := by decide +kernel
theorem d_R_isTokenLost_0 : decode c_R_isTokenLost 0 = .ok (.aload_n 0, 1) := by decide +kernel
theorem d_R_isTokenLost_1 : decode c_R_isTokenLost 1 = .ok (.getfield 18, 3) := by decide +kernel
theorem d_R_isTokenLost_4 : decode c_R_isTokenLost 4 = .ok (.iconst (-1), 1) := by decide +kernel
theorem d_R_isTokenLost_5 : decode c_R_isTokenLost 5 = .ok (.if_icmp .ne 7, 3) := by decide +kernel
theorem d_R_isTokenLost_8 : decode c_R_isTokenLost 8 = .ok (.iconst 1, 1) := by decide +kernel
theorem d_R_isTokenLost_9 : decode c_R_isTokenLost 9 = .ok (.goto 4, 3) := by decide +kernel
theorem d_R_isTokenLost_12 : decode c_R_isTokenLost 12 = .ok (.iconst 0, 1) := by decide +kernel
theorem d_R_isTokenLost_13 : decode c_R_isTokenLost 13 = .ok (.ireturn, 1) := by decide +kernel
theorem d_R_isRequested_0 : decode c_R_isRequested 0 = .ok (.aload_n 0, 1) := by decide +kernel
theorem d_R_isRequested_1 : decode c_R_isRequested 1 = .ok (.getfield 35, 3) := by decide +kernel
theorem d_R_isRequested_4 : decode c_R_isRequested 4 = .ok (.lconst 1, 1) := by decide +kernel
theorem d_R_isRequested_5 : decode c_R_isRequested 5 = .ok (.iload_n 1, 1) := by decide +kernel
theorem d_R_isRequested_6 : decode c_R_isRequested 6 = .ok (.lshl, 1) := by decide +kernel
theorem d_R_isRequested_7 : decode c_R_isRequested 7 = .ok (.land, 1) := by decide +kernel
theorem d_R_isRequested_8 : decode c_R_isRequested 8 = .ok (.lconst 0, 1) := by decide +kernel
theorem d_R_isRequested_9 : decode c_R_isRequested 9 = .ok (.lcmp, 1) := by decide +kernel
theorem d_R_isRequested_10 : decode c_R_isRequested 10 = .ok (.ifCond .eq 7, 3) := by decide +kernel
theorem d_R_isRequested_13 : decode c_R_isRequested 13 = .ok (.iconst 1, 1) := by decide +kernel
theorem d_R_isRequested_14 : decode c_R_isRequested 14 = .ok (.goto 4, 3) := by decide +kernel
theorem d_R_isRequested_17 : decode c_R_isRequested 17 = .ok (.iconst 0, 1) := by decide +kernel
theorem d_R_isRequested_18 : decode c_R_isRequested 18 = .ok (.ireturn, 1) := by decide +kernel
theorem d_R_takeOffRequest_0 : decode c_R_takeOffRequest 0 = .ok (.aload_n 0, 1) := by decide +kernel
theorem d_R_takeOffRequest_1 : decode c_R_takeOffRequest 1 = .ok (.dup, 1) := by decide +kernel
theorem d_R_takeOffRequest_2 : decode c_R_takeOffRequest 2 = .ok (.getfield 35, 3) := by decide +kernel
theorem d_R_takeOffRequest_5 : decode c_R_takeOffRequest 5 = .ok (.lconst 1, 1) := by decide +kernel
theorem d_R_takeOffRequest_6 : decode c_R_takeOffRequest 6 = .ok (.iload_n 1, 1) := by decide +kernel
theorem d_R_takeOffRequest_7 : decode c_R_takeOffRequest 7 = .ok (.lshl, 1) := by decide +kernel
theorem d_R_takeOffRequest_8 : decode c_R_takeOffRequest 8 = .ok (.ldc2_w 39, 3) := by decide +kernel
theorem d_R_takeOffRequest_11 : decode c_R_takeOffRequest 11 = .ok (.lxor, 1) := by decide +kernel
theorem d_R_takeOffRequest_12 : decode c_R_takeOffRequest 12 = .ok (.land, 1) := by decide +kernel
theorem d_R_takeOffRequest_13 : decode c_R_takeOffRequest 13 = .ok (.putfield 35, 3) := by decide +kernel
theorem d_R_takeOffRequest_16 : decode c_R_takeOffRequest 16 = .ok (.return_, 1) := by decide +kernel
theorem d_R_markAndRequest_0 : decode c_R_markAndRequest 0 = .ok (.aload_n 0, 1) := by decide +kernel
theorem d_R_markAndRequest_1 : decode c_R_markAndRequest 1 = .ok (.getfield 15, 3) := by decide +kernel
theorem d_R_markAndRequest_4 : decode c_R_markAndRequest 4 = .ok (.aload_n 1, 1) := by decide +kernel
theorem d_R_markAndRequest_5 : decode c_R_markAndRequest 5 = .ok (.getfield 41, 3) := by decide +kernel
theorem d_R_markAndRequest_8 : decode c_R_markAndRequest 8 = .ok (.aload_n 1, 1) := by decide +kernel
theorem d_R_markAndRequest_9 : decode c_R_markAndRequest 9 = .ok (.invokevirtual 44, 3) := by decide +kernel
theorem d_R_markAndRequest_12 : decode c_R_markAndRequest 12 = .ok (.iastore, 1) := by decide +kernel
theorem d_R_markAndRequest_13 : decode c_R_markAndRequest 13 = .ok (.iconst 1, 1) := by decide +kernel
theorem d_R_markAndRequest_14 : decode c_R_markAndRequest 14 = .ok (.istore_n 2, 1) := by decide +kernel
theorem d_R_markAndRequest_15 : decode c_R_markAndRequest 15 = .ok (.iload_n 2, 1) := by decide +kernel
theorem d_R_markAndRequest_16 : decode c_R_markAndRequest 16 = .ok (.aload_n 0, 1) := by decide +kernel
theorem d_R_markAndRequest_17 : decode c_R_markAndRequest 17 = .ok (.getfield 32, 3) := by decide +kernel
theorem d_R_markAndRequest_20 : decode c_R_markAndRequest 20 = .ok (.if_icmp .gt 29, 3) := by decide +kernel
theorem d_R_markAndRequest_23 : decode c_R_markAndRequest 23 = .ok (.aload_n 1, 1) := by decide +kernel
theorem d_R_markAndRequest_24 : decode c_R_markAndRequest 24 = .ok (.iload_n 2, 1) := by decide +kernel
theorem d_R_markAndRequest_25 : decode c_R_markAndRequest 25 = .ok (.invokevirtual 48, 3) := by decide +kernel
theorem d_R_markAndRequest_28 : decode c_R_markAndRequest 28 = .ok (.ifCond .ne 15, 3) := by decide +kernel
theorem d_R_markAndRequest_31 : decode c_R_markAndRequest 31 = .ok (.aload_n 0, 1) := by decide +kernel
theorem d_R_markAndRequest_32 : decode c_R_markAndRequest 32 = .ok (.dup, 1) := by decide +kernel
theorem d_R_markAndRequest_33 : decode c_R_markAndRequest 33 = .ok (.getfield 35, 3) := by decide +kernel
theorem d_R_markAndRequest_36 : decode c_R_markAndRequest 36 = .ok (.lconst 1, 1) := by decide +kernel
theorem d_R_markAndRequest_37 : decode c_R_markAndRequest 37 = .ok (.iload_n 2, 1) := by decide +kernel
theorem d_R_markAndRequest_38 : decode c_R_markAndRequest 38 = .ok (.lshl, 1) := by decide +kernel
theorem d_R_markAndRequest_39 : decode c_R_markAndRequest 39 = .ok (.lor, 1) := by decide +kernel
theorem d_R_markAndRequest_40 : decode c_R_markAndRequest 40 = .ok (.putfield 35, 3) := by decide +kernel
theorem d_R_markAndRequest_43 : decode c_R_markAndRequest 43 = .ok (.iinc 2 1, 3) := by decide +kernel
theorem d_R_markAndRequest_46 : decode c_R_markAndRequest 46 = .ok (.goto (-31), 3) := by decide +kernel
theorem d_R_markAndRequest_49 : decode c_R_markAndRequest 49 = .ok (.return_, 1) := by decide +kernel
theorem d_R_leastMark_0 : decode c_R_leastMark 0 = .ok (.bipush 48, 2) := by decide +kernel
theorem d_R_leastMark_2 : decode c_R_leastMark 2 = .ok (.istore_n 1, 1) := by decide +kernel
theorem d_R_leastMark_3 : decode c_R_leastMark 3 = .ok (.iconst 0, 1) := by decide +kernel
theorem d_R_leastMark_4 : decode c_R_leastMark 4 = .ok (.istore_n 2, 1) := by decide +kernel
theorem d_R_leastMark_5 : decode c_R_leastMark 5 = .ok (.iload_n 2, 1) := by decide +kernel
theorem d_R_leastMark_6 : decode c_R_leastMark 6 = .ok (.iconst 5, 1) := by decide +kernel
theorem d_R_leastMark_7 : decode c_R_leastMark 7 = .ok (.if_icmp .ge 31, 3) := by decide +kernel
theorem d_R_leastMark_10 : decode c_R_leastMark 10 = .ok (.aload_n 0, 1) := by decide +kernel
theorem d_R_leastMark_11 : decode c_R_leastMark 11 = .ok (.getfield 25, 3) := by decide +kernel
theorem d_R_leastMark_14 : decode c_R_leastMark 14 = .ok (.iload_n 2, 1) := by decide +kernel
theorem d_R_leastMark_15 : decode c_R_leastMark 15 = .ok (.invokestatic 52, 3) := by decide +kernel
theorem d_R_leastMark_18 : decode c_R_leastMark 18 = .ok (.ifCond .eq 14, 3) := by decide +kernel
theorem d_R_leastMark_21 : decode c_R_leastMark 21 = .ok (.iload_n 1, 1) := by decide +kernel
theorem d_R_leastMark_22 : decode c_R_leastMark 22 = .ok (.aload_n 0, 1) := by decide +kernel
theorem d_R_leastMark_23 : decode c_R_leastMark 23 = .ok (.getfield 15, 3) := by decide +kernel
theorem d_R_leastMark_26 : decode c_R_leastMark 26 = .ok (.iload_n 2, 1) := by decide +kernel
theorem d_R_leastMark_27 : decode c_R_leastMark 27 = .ok (.iaload, 1) := by decide +kernel
theorem d_R_leastMark_28 : decode c_R_leastMark 28 = .ok (.invokestatic 56, 3) := by decide +kernel
theorem d_R_leastMark_31 : decode c_R_leastMark 31 = .ok (.istore_n 1, 1) := by decide +kernel
theorem d_R_leastMark_32 : decode c_R_leastMark 32 = .ok (.iinc 2 1, 3) := by decide +kernel
theorem d_R_leastMark_35 : decode c_R_leastMark 35 = .ok (.goto (-30), 3) := by decide +kernel
theorem d_R_leastMark_38 : decode c_R_leastMark 38 = .ok (.iload_n 1, 1) := by decide +kernel
theorem d_R_leastMark_39 : decode c_R_leastMark 39 = .ok (.ireturn, 1) := by decide +kernel
theorem d_R_memberAfter_0 : decode c_R_memberAfter 0 = .ok (.iconst 1, 1) := by decide +kernel
theorem d_R_memberAfter_1 : decode c_R_memberAfter 1 = .ok (.istore_n 2, 1) := by decide +kernel
theorem d_R_memberAfter_2 : decode c_R_memberAfter 2 = .ok (.iload_n 2, 1) := by decide +kernel
theorem d_R_memberAfter_3 : decode c_R_memberAfter 3 = .ok (.iconst 5, 1) := by decide +kernel
theorem d_R_memberAfter_4 : decode c_R_memberAfter 4 = .ok (.if_icmp .ge 28, 3) := by decide +kernel
theorem d_R_memberAfter_7 : decode c_R_memberAfter 7 = .ok (.iload_n 1, 1) := by decide +kernel
theorem d_R_memberAfter_8 : decode c_R_memberAfter 8 = .ok (.iload_n 2, 1) := by decide +kernel
theorem d_R_memberAfter_9 : decode c_R_memberAfter 9 = .ok (.iadd, 1) := by decide +kernel
theorem d_R_memberAfter_10 : decode c_R_memberAfter 10 = .ok (.iconst 5, 1) := by decide +kernel
theorem d_R_memberAfter_11 : decode c_R_memberAfter 11 = .ok (.irem, 1) := by decide +kernel
theorem d_R_memberAfter_12 : decode c_R_memberAfter 12 = .ok (.istore_n 3, 1) := by decide +kernel
theorem d_R_memberAfter_13 : decode c_R_memberAfter 13 = .ok (.aload_n 0, 1) := by decide +kernel
theorem d_R_memberAfter_14 : decode c_R_memberAfter 14 = .ok (.getfield 25, 3) := by decide +kernel
theorem d_R_memberAfter_17 : decode c_R_memberAfter 17 = .ok (.iload_n 3, 1) := by decide +kernel
theorem d_R_memberAfter_18 : decode c_R_memberAfter 18 = .ok (.invokestatic 52, 3) := by decide +kernel
theorem d_R_memberAfter_21 : decode c_R_memberAfter 21 = .ok (.ifCond .eq 5, 3) := by decide +kernel
theorem d_R_memberAfter_24 : decode c_R_memberAfter 24 = .ok (.iload_n 3, 1) := by decide +kernel
theorem d_R_memberAfter_25 : decode c_R_memberAfter 25 = .ok (.ireturn, 1) := by decide +kernel
theorem d_R_memberAfter_26 : decode c_R_memberAfter 26 = .ok (.iinc 2 1, 3) := by decide +kernel
theorem d_R_memberAfter_29 : decode c_R_memberAfter 29 = .ok (.goto (-27), 3) := by decide +kernel
theorem d_R_memberAfter_32 : decode c_R_memberAfter 32 = .ok (.iload_n 1, 1) := by decide +kernel
theorem d_R_memberAfter_33 : decode c_R_memberAfter 33 = .ok (.ireturn, 1) := by decide +kernel
theorem d_L_law_0 : decode c_L_law 0 = .ok (.new 7, 3) := by decide +kernel
theorem d_L_law_3 : decode c_L_law 3 = .ok (.dup, 1) := by decide +kernel
theorem d_L_law_4 : decode c_L_law 4 = .ok (.invokespecial 9, 3) := by decide +kernel
theorem d_L_law_7 : decode c_L_law 7 = .ok (.astore_n 1, 1) := by decide +kernel
theorem d_L_law_8 : decode c_L_law 8 = .ok (.new 10, 3) := by decide +kernel
theorem d_L_law_11 : decode c_L_law 11 = .ok (.dup, 1) := by decide +kernel
theorem d_L_law_12 : decode c_L_law 12 = .ok (.invokespecial 12, 3) := by decide +kernel
theorem d_L_law_15 : decode c_L_law 15 = .ok (.astore_n 2, 1) := by decide +kernel
theorem d_L_law_16 : decode c_L_law 16 = .ok (.iconst 0, 1) := by decide +kernel
theorem d_L_law_17 : decode c_L_law 17 = .ok (.istore_n 3, 1) := by decide +kernel
theorem d_L_law_18 : decode c_L_law 18 = .ok (.iload_n 3, 1) := by decide +kernel
theorem d_L_law_19 : decode c_L_law 19 = .ok (.aload_n 0, 1) := by decide +kernel
theorem d_L_law_20 : decode c_L_law 20 = .ok (.arraylength, 1) := by decide +kernel
theorem d_L_law_21 : decode c_L_law 21 = .ok (.iconst 3, 1) := by decide +kernel
theorem d_L_law_22 : decode c_L_law 22 = .ok (.isub, 1) := by decide +kernel
theorem d_L_law_23 : decode c_L_law 23 = .ok (.if_icmp .gt 600, 3) := by decide +kernel
theorem d_L_law_26 : decode c_L_law 26 = .ok (.aload_n 0, 1) := by decide +kernel
theorem d_L_law_27 : decode c_L_law 27 = .ok (.iload_n 3, 1) := by decide +kernel
theorem d_L_law_28 : decode c_L_law 28 = .ok (.iaload, 1) := by decide +kernel
theorem d_L_law_29 : decode c_L_law 29 = .ok (.bipush 31, 2) := by decide +kernel
theorem d_L_law_31 : decode c_L_law 31 = .ok (.iand, 1) := by decide +kernel
theorem d_L_law_32 : decode c_L_law 32 = .ok (.tableswitch 585 0 18 #[92, 141, 164, 187, 210, 233, 266, 299, 322, 345, 368, 391, 414, 437, 460, 483, 506, 529, 562], 92) := by decide +kernel
theorem d_L_law_124 : decode c_L_law 124 = .ok (.aload_n 1, 1) := by decide +kernel
theorem d_L_law_125 : decode c_L_law 125 = .ok (.aload_n 0, 1) := by decide +kernel
theorem d_L_law_126 : decode c_L_law 126 = .ok (.iload_n 3, 1) := by decide +kernel
theorem d_L_law_127 : decode c_L_law 127 = .ok (.iconst 1, 1) := by decide +kernel
theorem d_L_law_128 : decode c_L_law 128 = .ok (.iadd, 1) := by decide +kernel
theorem d_L_law_129 : decode c_L_law 129 = .ok (.iaload, 1) := by decide +kernel
theorem d_L_law_130 : decode c_L_law 130 = .ok (.aload_n 0, 1) := by decide +kernel
theorem d_L_law_131 : decode c_L_law 131 = .ok (.iload_n 3, 1) := by decide +kernel
theorem d_L_law_132 : decode c_L_law 132 = .ok (.iconst 2, 1) := by decide +kernel
theorem d_L_law_133 : decode c_L_law 133 = .ok (.iadd, 1) := by decide +kernel
theorem d_L_law_134 : decode c_L_law 134 = .ok (.iaload, 1) := by decide +kernel
theorem d_L_law_135 : decode c_L_law 135 = .ok (.ifCond .eq 7, 3) := by decide +kernel
theorem d_L_law_138 : decode c_L_law 138 = .ok (.iconst 1, 1) := by decide +kernel
theorem d_L_law_139 : decode c_L_law 139 = .ok (.goto 4, 3) := by decide +kernel
theorem d_L_law_142 : decode c_L_law 142 = .ok (.iconst 0, 1) := by decide +kernel
theorem d_L_law_143 : decode c_L_law 143 = .ok (.invokevirtual 13, 3) := by decide +kernel
theorem d_L_law_146 : decode c_L_law 146 = .ok (.aload_n 2, 1) := by decide +kernel
theorem d_L_law_147 : decode c_L_law 147 = .ok (.aload_n 0, 1) := by decide +kernel
theorem d_L_law_148 : decode c_L_law 148 = .ok (.iload_n 3, 1) := by decide +kernel
theorem d_L_law_149 : decode c_L_law 149 = .ok (.iconst 1, 1) := by decide +kernel
theorem d_L_law_150 : decode c_L_law 150 = .ok (.iadd, 1) := by decide +kernel
theorem d_L_law_151 : decode c_L_law 151 = .ok (.iaload, 1) := by decide +kernel
theorem d_L_law_152 : decode c_L_law 152 = .ok (.aload_n 0, 1) := by decide +kernel
theorem d_L_law_153 : decode c_L_law 153 = .ok (.iload_n 3, 1) := by decide +kernel
theorem d_L_law_154 : decode c_L_law 154 = .ok (.iconst 2, 1) := by decide +kernel
theorem d_L_law_155 : decode c_L_law 155 = .ok (.iadd, 1) := by decide +kernel
theorem d_L_law_156 : decode c_L_law 156 = .ok (.iaload, 1) := by decide +kernel
theorem d_L_law_157 : decode c_L_law 157 = .ok (.ifCond .eq 7, 3) := by decide +kernel
theorem d_L_law_160 : decode c_L_law 160 = .ok (.iconst 1, 1) := by decide +kernel
theorem d_L_law_161 : decode c_L_law 161 = .ok (.goto 4, 3) := by decide +kernel
theorem d_L_law_164 : decode c_L_law 164 = .ok (.iconst 0, 1) := by decide +kernel
theorem d_L_law_165 : decode c_L_law 165 = .ok (.invokevirtual 17, 3) := by decide +kernel
theorem d_L_law_168 : decode c_L_law 168 = .ok (.if_icmp .eq 449, 3) := by decide +kernel
theorem d_L_law_171 : decode c_L_law 171 = .ok (.iconst 0, 1) := by decide +kernel
theorem d_L_law_172 : decode c_L_law 172 = .ok (.ireturn, 1) := by decide +kernel
theorem d_L_law_173 : decode c_L_law 173 = .ok (.aload_n 1, 1) := by decide +kernel
theorem d_L_law_174 : decode c_L_law 174 = .ok (.aload_n 0, 1) := by decide +kernel
theorem d_L_law_175 : decode c_L_law 175 = .ok (.iload_n 3, 1) := by decide +kernel
theorem d_L_law_176 : decode c_L_law 176 = .ok (.iconst 1, 1) := by decide +kernel
theorem d_L_law_177 : decode c_L_law 177 = .ok (.iadd, 1) := by decide +kernel
theorem d_L_law_178 : decode c_L_law 178 = .ok (.iaload, 1) := by decide +kernel
theorem d_L_law_179 : decode c_L_law 179 = .ok (.invokevirtual 18, 3) := by decide +kernel
theorem d_L_law_182 : decode c_L_law 182 = .ok (.aload_n 2, 1) := by decide +kernel
theorem d_L_law_183 : decode c_L_law 183 = .ok (.aload_n 0, 1) := by decide +kernel
theorem d_L_law_184 : decode c_L_law 184 = .ok (.iload_n 3, 1) := by decide +kernel
theorem d_L_law_185 : decode c_L_law 185 = .ok (.iconst 1, 1) := by decide +kernel
theorem d_L_law_186 : decode c_L_law 186 = .ok (.iadd, 1) := by decide +kernel
theorem d_L_law_187 : decode c_L_law 187 = .ok (.iaload, 1) := by decide +kernel
theorem d_L_law_188 : decode c_L_law 188 = .ok (.invokevirtual 22, 3) := by decide +kernel
theorem d_L_law_191 : decode c_L_law 191 = .ok (.if_icmp .eq 426, 3) := by decide +kernel
theorem d_L_law_194 : decode c_L_law 194 = .ok (.iconst 0, 1) := by decide +kernel
theorem d_L_law_195 : decode c_L_law 195 = .ok (.ireturn, 1) := by decide +kernel
theorem d_L_law_196 : decode c_L_law 196 = .ok (.aload_n 1, 1) := by decide +kernel
theorem d_L_law_197 : decode c_L_law 197 = .ok (.aload_n 0, 1) := by decide +kernel
theorem d_L_law_198 : decode c_L_law 198 = .ok (.iload_n 3, 1) := by decide +kernel
theorem d_L_law_199 : decode c_L_law 199 = .ok (.iconst 1, 1) := by decide +kernel
theorem d_L_law_200 : decode c_L_law 200 = .ok (.iadd, 1) := by decide +kernel
theorem d_L_law_201 : decode c_L_law 201 = .ok (.iaload, 1) := by decide +kernel
theorem d_L_law_202 : decode c_L_law 202 = .ok (.invokevirtual 23, 3) := by decide +kernel
theorem d_L_law_205 : decode c_L_law 205 = .ok (.aload_n 2, 1) := by decide +kernel
theorem d_L_law_206 : decode c_L_law 206 = .ok (.aload_n 0, 1) := by decide +kernel
theorem d_L_law_207 : decode c_L_law 207 = .ok (.iload_n 3, 1) := by decide +kernel
theorem d_L_law_208 : decode c_L_law 208 = .ok (.iconst 1, 1) := by decide +kernel
theorem d_L_law_209 : decode c_L_law 209 = .ok (.iadd, 1) := by decide +kernel
theorem d_L_law_210 : decode c_L_law 210 = .ok (.iaload, 1) := by decide +kernel
theorem d_L_law_211 : decode c_L_law 211 = .ok (.invokevirtual 26, 3) := by decide +kernel
theorem d_L_law_214 : decode c_L_law 214 = .ok (.if_icmp .eq 403, 3) := by decide +kernel
theorem d_L_law_217 : decode c_L_law 217 = .ok (.iconst 0, 1) := by decide +kernel
theorem d_L_law_218 : decode c_L_law 218 = .ok (.ireturn, 1) := by decide +kernel
theorem d_L_law_219 : decode c_L_law 219 = .ok (.aload_n 1, 1) := by decide +kernel
theorem d_L_law_220 : decode c_L_law 220 = .ok (.aload_n 0, 1) := by decide +kernel
theorem d_L_law_221 : decode c_L_law 221 = .ok (.iload_n 3, 1) := by decide +kernel
theorem d_L_law_222 : decode c_L_law 222 = .ok (.iconst 1, 1) := by decide +kernel
theorem d_L_law_223 : decode c_L_law 223 = .ok (.iadd, 1) := by decide +kernel
theorem d_L_law_224 : decode c_L_law 224 = .ok (.iaload, 1) := by decide +kernel
theorem d_L_law_225 : decode c_L_law 225 = .ok (.invokevirtual 27, 3) := by decide +kernel
theorem d_L_law_228 : decode c_L_law 228 = .ok (.aload_n 2, 1) := by decide +kernel
theorem d_L_law_229 : decode c_L_law 229 = .ok (.aload_n 0, 1) := by decide +kernel
theorem d_L_law_230 : decode c_L_law 230 = .ok (.iload_n 3, 1) := by decide +kernel
theorem d_L_law_231 : decode c_L_law 231 = .ok (.iconst 1, 1) := by decide +kernel
theorem d_L_law_232 : decode c_L_law 232 = .ok (.iadd, 1) := by decide +kernel
theorem d_L_law_233 : decode c_L_law 233 = .ok (.iaload, 1) := by decide +kernel
theorem d_L_law_234 : decode c_L_law 234 = .ok (.invokevirtual 31, 3) := by decide +kernel
theorem d_L_law_237 : decode c_L_law 237 = .ok (.if_icmp .eq 380, 3) := by decide +kernel
theorem d_L_law_240 : decode c_L_law 240 = .ok (.iconst 0, 1) := by decide +kernel
theorem d_L_law_241 : decode c_L_law 241 = .ok (.ireturn, 1) := by decide +kernel
theorem d_L_law_242 : decode c_L_law 242 = .ok (.aload_n 1, 1) := by decide +kernel
theorem d_L_law_243 : decode c_L_law 243 = .ok (.aload_n 0, 1) := by decide +kernel
theorem d_L_law_244 : decode c_L_law 244 = .ok (.iload_n 3, 1) := by decide +kernel
theorem d_L_law_245 : decode c_L_law 245 = .ok (.iconst 1, 1) := by decide +kernel
theorem d_L_law_246 : decode c_L_law 246 = .ok (.iadd, 1) := by decide +kernel
theorem d_L_law_247 : decode c_L_law 247 = .ok (.iaload, 1) := by decide +kernel
theorem d_L_law_248 : decode c_L_law 248 = .ok (.invokevirtual 32, 3) := by decide +kernel
theorem d_L_law_251 : decode c_L_law 251 = .ok (.aload_n 2, 1) := by decide +kernel
theorem d_L_law_252 : decode c_L_law 252 = .ok (.aload_n 0, 1) := by decide +kernel
theorem d_L_law_253 : decode c_L_law 253 = .ok (.iload_n 3, 1) := by decide +kernel
theorem d_L_law_254 : decode c_L_law 254 = .ok (.iconst 1, 1) := by decide +kernel
theorem d_L_law_255 : decode c_L_law 255 = .ok (.iadd, 1) := by decide +kernel
theorem d_L_law_256 : decode c_L_law 256 = .ok (.iaload, 1) := by decide +kernel
theorem d_L_law_257 : decode c_L_law 257 = .ok (.invokevirtual 35, 3) := by decide +kernel
theorem d_L_law_260 : decode c_L_law 260 = .ok (.if_icmp .eq 357, 3) := by decide +kernel
theorem d_L_law_263 : decode c_L_law 263 = .ok (.iconst 0, 1) := by decide +kernel
theorem d_L_law_264 : decode c_L_law 264 = .ok (.ireturn, 1) := by decide +kernel
theorem d_L_law_265 : decode c_L_law 265 = .ok (.aload_n 1, 1) := by decide +kernel
theorem d_L_law_266 : decode c_L_law 266 = .ok (.aload_n 0, 1) := by decide +kernel
theorem d_L_law_267 : decode c_L_law 267 = .ok (.iload_n 3, 1) := by decide +kernel
theorem d_L_law_268 : decode c_L_law 268 = .ok (.iconst 1, 1) := by decide +kernel
theorem d_L_law_269 : decode c_L_law 269 = .ok (.iadd, 1) := by decide +kernel
theorem d_L_law_270 : decode c_L_law 270 = .ok (.iaload, 1) := by decide +kernel
theorem d_L_law_271 : decode c_L_law 271 = .ok (.aload_n 0, 1) := by decide +kernel
theorem d_L_law_272 : decode c_L_law 272 = .ok (.iload_n 3, 1) := by decide +kernel
theorem d_L_law_273 : decode c_L_law 273 = .ok (.iconst 2, 1) := by decide +kernel
theorem d_L_law_274 : decode c_L_law 274 = .ok (.iadd, 1) := by decide +kernel
theorem d_L_law_275 : decode c_L_law 275 = .ok (.iaload, 1) := by decide +kernel
theorem d_L_law_276 : decode c_L_law 276 = .ok (.invokevirtual 36, 3) := by decide +kernel
theorem d_L_law_279 : decode c_L_law 279 = .ok (.aload_n 2, 1) := by decide +kernel
theorem d_L_law_280 : decode c_L_law 280 = .ok (.aload_n 0, 1) := by decide +kernel
theorem d_L_law_281 : decode c_L_law 281 = .ok (.iload_n 3, 1) := by decide +kernel
theorem d_L_law_282 : decode c_L_law 282 = .ok (.iconst 1, 1) := by decide +kernel
theorem d_L_law_283 : decode c_L_law 283 = .ok (.iadd, 1) := by decide +kernel
theorem d_L_law_284 : decode c_L_law 284 = .ok (.iaload, 1) := by decide +kernel
theorem d_L_law_285 : decode c_L_law 285 = .ok (.aload_n 0, 1) := by decide +kernel
theorem d_L_law_286 : decode c_L_law 286 = .ok (.iload_n 3, 1) := by decide +kernel
theorem d_L_law_287 : decode c_L_law 287 = .ok (.iconst 2, 1) := by decide +kernel
theorem d_L_law_288 : decode c_L_law 288 = .ok (.iadd, 1) := by decide +kernel
theorem d_L_law_289 : decode c_L_law 289 = .ok (.iaload, 1) := by decide +kernel
theorem d_L_law_290 : decode c_L_law 290 = .ok (.invokevirtual 40, 3) := by decide +kernel
theorem d_L_law_293 : decode c_L_law 293 = .ok (.if_icmp .eq 324, 3) := by decide +kernel
theorem d_L_law_296 : decode c_L_law 296 = .ok (.iconst 0, 1) := by decide +kernel
theorem d_L_law_297 : decode c_L_law 297 = .ok (.ireturn, 1) := by decide +kernel
theorem d_L_law_298 : decode c_L_law 298 = .ok (.aload_n 1, 1) := by decide +kernel
theorem d_L_law_299 : decode c_L_law 299 = .ok (.aload_n 0, 1) := by decide +kernel
theorem d_L_law_300 : decode c_L_law 300 = .ok (.iload_n 3, 1) := by decide +kernel
theorem d_L_law_301 : decode c_L_law 301 = .ok (.iconst 1, 1) := by decide +kernel
theorem d_L_law_302 : decode c_L_law 302 = .ok (.iadd, 1) := by decide +kernel
theorem d_L_law_303 : decode c_L_law 303 = .ok (.iaload, 1) := by decide +kernel
theorem d_L_law_304 : decode c_L_law 304 = .ok (.aload_n 0, 1) := by decide +kernel
theorem d_L_law_305 : decode c_L_law 305 = .ok (.iload_n 3, 1) := by decide +kernel
theorem d_L_law_306 : decode c_L_law 306 = .ok (.iconst 2, 1) := by decide +kernel
theorem d_L_law_307 : decode c_L_law 307 = .ok (.iadd, 1) := by decide +kernel
theorem d_L_law_308 : decode c_L_law 308 = .ok (.iaload, 1) := by decide +kernel
theorem d_L_law_309 : decode c_L_law 309 = .ok (.invokevirtual 41, 3) := by decide +kernel
theorem d_L_law_312 : decode c_L_law 312 = .ok (.aload_n 2, 1) := by decide +kernel
theorem d_L_law_313 : decode c_L_law 313 = .ok (.aload_n 0, 1) := by decide +kernel
theorem d_L_law_314 : decode c_L_law 314 = .ok (.iload_n 3, 1) := by decide +kernel
theorem d_L_law_315 : decode c_L_law 315 = .ok (.iconst 1, 1) := by decide +kernel
theorem d_L_law_316 : decode c_L_law 316 = .ok (.iadd, 1) := by decide +kernel
theorem d_L_law_317 : decode c_L_law 317 = .ok (.iaload, 1) := by decide +kernel
theorem d_L_law_318 : decode c_L_law 318 = .ok (.aload_n 0, 1) := by decide +kernel
theorem d_L_law_319 : decode c_L_law 319 = .ok (.iload_n 3, 1) := by decide +kernel
theorem d_L_law_320 : decode c_L_law 320 = .ok (.iconst 2, 1) := by decide +kernel
theorem d_L_law_321 : decode c_L_law 321 = .ok (.iadd, 1) := by decide +kernel
theorem d_L_law_322 : decode c_L_law 322 = .ok (.iaload, 1) := by decide +kernel
theorem d_L_law_323 : decode c_L_law 323 = .ok (.invokevirtual 44, 3) := by decide +kernel
theorem d_L_law_326 : decode c_L_law 326 = .ok (.if_icmp .eq 291, 3) := by decide +kernel
theorem d_L_law_329 : decode c_L_law 329 = .ok (.iconst 0, 1) := by decide +kernel
theorem d_L_law_330 : decode c_L_law 330 = .ok (.ireturn, 1) := by decide +kernel
theorem d_L_law_331 : decode c_L_law 331 = .ok (.aload_n 1, 1) := by decide +kernel
theorem d_L_law_332 : decode c_L_law 332 = .ok (.aload_n 0, 1) := by decide +kernel
theorem d_L_law_333 : decode c_L_law 333 = .ok (.iload_n 3, 1) := by decide +kernel
theorem d_L_law_334 : decode c_L_law 334 = .ok (.iconst 1, 1) := by decide +kernel
theorem d_L_law_335 : decode c_L_law 335 = .ok (.iadd, 1) := by decide +kernel
theorem d_L_law_336 : decode c_L_law 336 = .ok (.iaload, 1) := by decide +kernel
theorem d_L_law_337 : decode c_L_law 337 = .ok (.invokevirtual 45, 3) := by decide +kernel
theorem d_L_law_340 : decode c_L_law 340 = .ok (.aload_n 2, 1) := by decide +kernel
theorem d_L_law_341 : decode c_L_law 341 = .ok (.aload_n 0, 1) := by decide +kernel
theorem d_L_law_342 : decode c_L_law 342 = .ok (.iload_n 3, 1) := by decide +kernel
theorem d_L_law_343 : decode c_L_law 343 = .ok (.iconst 1, 1) := by decide +kernel
theorem d_L_law_344 : decode c_L_law 344 = .ok (.iadd, 1) := by decide +kernel
theorem d_L_law_345 : decode c_L_law 345 = .ok (.iaload, 1) := by decide +kernel
theorem d_L_law_346 : decode c_L_law 346 = .ok (.invokevirtual 48, 3) := by decide +kernel
theorem d_L_law_349 : decode c_L_law 349 = .ok (.if_icmp .eq 268, 3) := by decide +kernel
theorem d_L_law_352 : decode c_L_law 352 = .ok (.iconst 0, 1) := by decide +kernel
theorem d_L_law_353 : decode c_L_law 353 = .ok (.ireturn, 1) := by decide +kernel
theorem d_L_law_354 : decode c_L_law 354 = .ok (.aload_n 1, 1) := by decide +kernel
theorem d_L_law_355 : decode c_L_law 355 = .ok (.aload_n 0, 1) := by decide +kernel
theorem d_L_law_356 : decode c_L_law 356 = .ok (.iload_n 3, 1) := by decide +kernel
theorem d_L_law_357 : decode c_L_law 357 = .ok (.iconst 1, 1) := by decide +kernel
theorem d_L_law_358 : decode c_L_law 358 = .ok (.iadd, 1) := by decide +kernel
theorem d_L_law_359 : decode c_L_law 359 = .ok (.iaload, 1) := by decide +kernel
theorem d_L_law_360 : decode c_L_law 360 = .ok (.invokevirtual 49, 3) := by decide +kernel
theorem d_L_law_363 : decode c_L_law 363 = .ok (.aload_n 2, 1) := by decide +kernel
theorem d_L_law_364 : decode c_L_law 364 = .ok (.aload_n 0, 1) := by decide +kernel
theorem d_L_law_365 : decode c_L_law 365 = .ok (.iload_n 3, 1) := by decide +kernel
theorem d_L_law_366 : decode c_L_law 366 = .ok (.iconst 1, 1) := by decide +kernel
theorem d_L_law_367 : decode c_L_law 367 = .ok (.iadd, 1) := by decide +kernel
theorem d_L_law_368 : decode c_L_law 368 = .ok (.iaload, 1) := by decide +kernel
theorem d_L_law_369 : decode c_L_law 369 = .ok (.invokevirtual 52, 3) := by decide +kernel
theorem d_L_law_372 : decode c_L_law 372 = .ok (.if_icmp .eq 245, 3) := by decide +kernel
theorem d_L_law_375 : decode c_L_law 375 = .ok (.iconst 0, 1) := by decide +kernel
theorem d_L_law_376 : decode c_L_law 376 = .ok (.ireturn, 1) := by decide +kernel
theorem d_L_law_377 : decode c_L_law 377 = .ok (.aload_n 1, 1) := by decide +kernel
theorem d_L_law_378 : decode c_L_law 378 = .ok (.aload_n 0, 1) := by decide +kernel
theorem d_L_law_379 : decode c_L_law 379 = .ok (.iload_n 3, 1) := by decide +kernel
theorem d_L_law_380 : decode c_L_law 380 = .ok (.iconst 1, 1) := by decide +kernel
theorem d_L_law_381 : decode c_L_law 381 = .ok (.iadd, 1) := by decide +kernel
theorem d_L_law_382 : decode c_L_law 382 = .ok (.iaload, 1) := by decide +kernel
theorem d_L_law_383 : decode c_L_law 383 = .ok (.invokevirtual 53, 3) := by decide +kernel
theorem d_L_law_386 : decode c_L_law 386 = .ok (.aload_n 2, 1) := by decide +kernel
theorem d_L_law_387 : decode c_L_law 387 = .ok (.aload_n 0, 1) := by decide +kernel
theorem d_L_law_388 : decode c_L_law 388 = .ok (.iload_n 3, 1) := by decide +kernel
theorem d_L_law_389 : decode c_L_law 389 = .ok (.iconst 1, 1) := by decide +kernel
theorem d_L_law_390 : decode c_L_law 390 = .ok (.iadd, 1) := by decide +kernel
theorem d_L_law_391 : decode c_L_law 391 = .ok (.iaload, 1) := by decide +kernel
theorem d_L_law_392 : decode c_L_law 392 = .ok (.invokevirtual 56, 3) := by decide +kernel
theorem d_L_law_395 : decode c_L_law 395 = .ok (.if_icmp .eq 222, 3) := by decide +kernel
theorem d_L_law_398 : decode c_L_law 398 = .ok (.iconst 0, 1) := by decide +kernel
theorem d_L_law_399 : decode c_L_law 399 = .ok (.ireturn, 1) := by decide +kernel
theorem d_L_law_400 : decode c_L_law 400 = .ok (.aload_n 1, 1) := by decide +kernel
theorem d_L_law_401 : decode c_L_law 401 = .ok (.aload_n 0, 1) := by decide +kernel
theorem d_L_law_402 : decode c_L_law 402 = .ok (.iload_n 3, 1) := by decide +kernel
theorem d_L_law_403 : decode c_L_law 403 = .ok (.iconst 1, 1) := by decide +kernel
theorem d_L_law_404 : decode c_L_law 404 = .ok (.iadd, 1) := by decide +kernel
theorem d_L_law_405 : decode c_L_law 405 = .ok (.iaload, 1) := by decide +kernel
theorem d_L_law_406 : decode c_L_law 406 = .ok (.invokevirtual 57, 3) := by decide +kernel
theorem d_L_law_409 : decode c_L_law 409 = .ok (.aload_n 2, 1) := by decide +kernel
theorem d_L_law_410 : decode c_L_law 410 = .ok (.aload_n 0, 1) := by decide +kernel
theorem d_L_law_411 : decode c_L_law 411 = .ok (.iload_n 3, 1) := by decide +kernel
theorem d_L_law_412 : decode c_L_law 412 = .ok (.iconst 1, 1) := by decide +kernel
theorem d_L_law_413 : decode c_L_law 413 = .ok (.iadd, 1) := by decide +kernel
theorem d_L_law_414 : decode c_L_law 414 = .ok (.iaload, 1) := by decide +kernel
theorem d_L_law_415 : decode c_L_law 415 = .ok (.invokevirtual 60, 3) := by decide +kernel
theorem d_L_law_418 : decode c_L_law 418 = .ok (.if_icmp .eq 199, 3) := by decide +kernel
theorem d_L_law_421 : decode c_L_law 421 = .ok (.iconst 0, 1) := by decide +kernel
theorem d_L_law_422 : decode c_L_law 422 = .ok (.ireturn, 1) := by decide +kernel
theorem d_L_law_423 : decode c_L_law 423 = .ok (.aload_n 1, 1) := by decide +kernel
theorem d_L_law_424 : decode c_L_law 424 = .ok (.aload_n 0, 1) := by decide +kernel
theorem d_L_law_425 : decode c_L_law 425 = .ok (.iload_n 3, 1) := by decide +kernel
theorem d_L_law_426 : decode c_L_law 426 = .ok (.iconst 1, 1) := by decide +kernel
theorem d_L_law_427 : decode c_L_law 427 = .ok (.iadd, 1) := by decide +kernel
theorem d_L_law_428 : decode c_L_law 428 = .ok (.iaload, 1) := by decide +kernel
theorem d_L_law_429 : decode c_L_law 429 = .ok (.invokevirtual 61, 3) := by decide +kernel
theorem d_L_law_432 : decode c_L_law 432 = .ok (.aload_n 2, 1) := by decide +kernel
theorem d_L_law_433 : decode c_L_law 433 = .ok (.aload_n 0, 1) := by decide +kernel
theorem d_L_law_434 : decode c_L_law 434 = .ok (.iload_n 3, 1) := by decide +kernel
theorem d_L_law_435 : decode c_L_law 435 = .ok (.iconst 1, 1) := by decide +kernel
theorem d_L_law_436 : decode c_L_law 436 = .ok (.iadd, 1) := by decide +kernel
theorem d_L_law_437 : decode c_L_law 437 = .ok (.iaload, 1) := by decide +kernel
theorem d_L_law_438 : decode c_L_law 438 = .ok (.invokevirtual 64, 3) := by decide +kernel
theorem d_L_law_441 : decode c_L_law 441 = .ok (.if_icmp .eq 176, 3) := by decide +kernel
theorem d_L_law_444 : decode c_L_law 444 = .ok (.iconst 0, 1) := by decide +kernel
theorem d_L_law_445 : decode c_L_law 445 = .ok (.ireturn, 1) := by decide +kernel
theorem d_L_law_446 : decode c_L_law 446 = .ok (.aload_n 1, 1) := by decide +kernel
theorem d_L_law_447 : decode c_L_law 447 = .ok (.aload_n 0, 1) := by decide +kernel
theorem d_L_law_448 : decode c_L_law 448 = .ok (.iload_n 3, 1) := by decide +kernel
theorem d_L_law_449 : decode c_L_law 449 = .ok (.iconst 1, 1) := by decide +kernel
theorem d_L_law_450 : decode c_L_law 450 = .ok (.iadd, 1) := by decide +kernel
theorem d_L_law_451 : decode c_L_law 451 = .ok (.iaload, 1) := by decide +kernel
theorem d_L_law_452 : decode c_L_law 452 = .ok (.invokevirtual 65, 3) := by decide +kernel
theorem d_L_law_455 : decode c_L_law 455 = .ok (.aload_n 2, 1) := by decide +kernel
theorem d_L_law_456 : decode c_L_law 456 = .ok (.aload_n 0, 1) := by decide +kernel
theorem d_L_law_457 : decode c_L_law 457 = .ok (.iload_n 3, 1) := by decide +kernel
theorem d_L_law_458 : decode c_L_law 458 = .ok (.iconst 1, 1) := by decide +kernel
theorem d_L_law_459 : decode c_L_law 459 = .ok (.iadd, 1) := by decide +kernel
theorem d_L_law_460 : decode c_L_law 460 = .ok (.iaload, 1) := by decide +kernel
theorem d_L_law_461 : decode c_L_law 461 = .ok (.invokevirtual 68, 3) := by decide +kernel
theorem d_L_law_464 : decode c_L_law 464 = .ok (.if_icmp .eq 153, 3) := by decide +kernel
theorem d_L_law_467 : decode c_L_law 467 = .ok (.iconst 0, 1) := by decide +kernel
theorem d_L_law_468 : decode c_L_law 468 = .ok (.ireturn, 1) := by decide +kernel
theorem d_L_law_469 : decode c_L_law 469 = .ok (.aload_n 1, 1) := by decide +kernel
theorem d_L_law_470 : decode c_L_law 470 = .ok (.aload_n 0, 1) := by decide +kernel
theorem d_L_law_471 : decode c_L_law 471 = .ok (.iload_n 3, 1) := by decide +kernel
theorem d_L_law_472 : decode c_L_law 472 = .ok (.iconst 1, 1) := by decide +kernel
theorem d_L_law_473 : decode c_L_law 473 = .ok (.iadd, 1) := by decide +kernel
theorem d_L_law_474 : decode c_L_law 474 = .ok (.iaload, 1) := by decide +kernel
theorem d_L_law_475 : decode c_L_law 475 = .ok (.invokevirtual 69, 3) := by decide +kernel
theorem d_L_law_478 : decode c_L_law 478 = .ok (.aload_n 2, 1) := by decide +kernel
theorem d_L_law_479 : decode c_L_law 479 = .ok (.aload_n 0, 1) := by decide +kernel
theorem d_L_law_480 : decode c_L_law 480 = .ok (.iload_n 3, 1) := by decide +kernel
theorem d_L_law_481 : decode c_L_law 481 = .ok (.iconst 1, 1) := by decide +kernel
theorem d_L_law_482 : decode c_L_law 482 = .ok (.iadd, 1) := by decide +kernel
theorem d_L_law_483 : decode c_L_law 483 = .ok (.iaload, 1) := by decide +kernel
theorem d_L_law_484 : decode c_L_law 484 = .ok (.invokevirtual 72, 3) := by decide +kernel
theorem d_L_law_487 : decode c_L_law 487 = .ok (.if_icmp .eq 130, 3) := by decide +kernel
theorem d_L_law_490 : decode c_L_law 490 = .ok (.iconst 0, 1) := by decide +kernel
theorem d_L_law_491 : decode c_L_law 491 = .ok (.ireturn, 1) := by decide +kernel
theorem d_L_law_492 : decode c_L_law 492 = .ok (.aload_n 1, 1) := by decide +kernel
theorem d_L_law_493 : decode c_L_law 493 = .ok (.aload_n 0, 1) := by decide +kernel
theorem d_L_law_494 : decode c_L_law 494 = .ok (.iload_n 3, 1) := by decide +kernel
theorem d_L_law_495 : decode c_L_law 495 = .ok (.iconst 1, 1) := by decide +kernel
theorem d_L_law_496 : decode c_L_law 496 = .ok (.iadd, 1) := by decide +kernel
theorem d_L_law_497 : decode c_L_law 497 = .ok (.iaload, 1) := by decide +kernel
theorem d_L_law_498 : decode c_L_law 498 = .ok (.invokevirtual 73, 3) := by decide +kernel
theorem d_L_law_501 : decode c_L_law 501 = .ok (.aload_n 2, 1) := by decide +kernel
theorem d_L_law_502 : decode c_L_law 502 = .ok (.aload_n 0, 1) := by decide +kernel
theorem d_L_law_503 : decode c_L_law 503 = .ok (.iload_n 3, 1) := by decide +kernel
theorem d_L_law_504 : decode c_L_law 504 = .ok (.iconst 1, 1) := by decide +kernel
theorem d_L_law_505 : decode c_L_law 505 = .ok (.iadd, 1) := by decide +kernel
theorem d_L_law_506 : decode c_L_law 506 = .ok (.iaload, 1) := by decide +kernel
theorem d_L_law_507 : decode c_L_law 507 = .ok (.invokevirtual 76, 3) := by decide +kernel
theorem d_L_law_510 : decode c_L_law 510 = .ok (.if_icmp .eq 107, 3) := by decide +kernel
theorem d_L_law_513 : decode c_L_law 513 = .ok (.iconst 0, 1) := by decide +kernel
theorem d_L_law_514 : decode c_L_law 514 = .ok (.ireturn, 1) := by decide +kernel
theorem d_L_law_515 : decode c_L_law 515 = .ok (.aload_n 1, 1) := by decide +kernel
theorem d_L_law_516 : decode c_L_law 516 = .ok (.aload_n 0, 1) := by decide +kernel
theorem d_L_law_517 : decode c_L_law 517 = .ok (.iload_n 3, 1) := by decide +kernel
theorem d_L_law_518 : decode c_L_law 518 = .ok (.iconst 1, 1) := by decide +kernel
theorem d_L_law_519 : decode c_L_law 519 = .ok (.iadd, 1) := by decide +kernel
theorem d_L_law_520 : decode c_L_law 520 = .ok (.iaload, 1) := by decide +kernel
theorem d_L_law_521 : decode c_L_law 521 = .ok (.invokevirtual 77, 3) := by decide +kernel
theorem d_L_law_524 : decode c_L_law 524 = .ok (.aload_n 2, 1) := by decide +kernel
theorem d_L_law_525 : decode c_L_law 525 = .ok (.aload_n 0, 1) := by decide +kernel
theorem d_L_law_526 : decode c_L_law 526 = .ok (.iload_n 3, 1) := by decide +kernel
theorem d_L_law_527 : decode c_L_law 527 = .ok (.iconst 1, 1) := by decide +kernel
theorem d_L_law_528 : decode c_L_law 528 = .ok (.iadd, 1) := by decide +kernel
theorem d_L_law_529 : decode c_L_law 529 = .ok (.iaload, 1) := by decide +kernel
theorem d_L_law_530 : decode c_L_law 530 = .ok (.invokevirtual 80, 3) := by decide +kernel
theorem d_L_law_533 : decode c_L_law 533 = .ok (.if_icmp .eq 84, 3) := by decide +kernel
theorem d_L_law_536 : decode c_L_law 536 = .ok (.iconst 0, 1) := by decide +kernel
theorem d_L_law_537 : decode c_L_law 537 = .ok (.ireturn, 1) := by decide +kernel
theorem d_L_law_538 : decode c_L_law 538 = .ok (.aload_n 1, 1) := by decide +kernel
theorem d_L_law_539 : decode c_L_law 539 = .ok (.aload_n 0, 1) := by decide +kernel
theorem d_L_law_540 : decode c_L_law 540 = .ok (.iload_n 3, 1) := by decide +kernel
theorem d_L_law_541 : decode c_L_law 541 = .ok (.iconst 1, 1) := by decide +kernel
theorem d_L_law_542 : decode c_L_law 542 = .ok (.iadd, 1) := by decide +kernel
theorem d_L_law_543 : decode c_L_law 543 = .ok (.iaload, 1) := by decide +kernel
theorem d_L_law_544 : decode c_L_law 544 = .ok (.invokevirtual 81, 3) := by decide +kernel
theorem d_L_law_547 : decode c_L_law 547 = .ok (.aload_n 2, 1) := by decide +kernel
theorem d_L_law_548 : decode c_L_law 548 = .ok (.aload_n 0, 1) := by decide +kernel
theorem d_L_law_549 : decode c_L_law 549 = .ok (.iload_n 3, 1) := by decide +kernel
theorem d_L_law_550 : decode c_L_law 550 = .ok (.iconst 1, 1) := by decide +kernel
theorem d_L_law_551 : decode c_L_law 551 = .ok (.iadd, 1) := by decide +kernel
theorem d_L_law_552 : decode c_L_law 552 = .ok (.iaload, 1) := by decide +kernel
theorem d_L_law_553 : decode c_L_law 553 = .ok (.invokevirtual 84, 3) := by decide +kernel
theorem d_L_law_556 : decode c_L_law 556 = .ok (.if_icmp .eq 61, 3) := by decide +kernel
theorem d_L_law_559 : decode c_L_law 559 = .ok (.iconst 0, 1) := by decide +kernel
theorem d_L_law_560 : decode c_L_law 560 = .ok (.ireturn, 1) := by decide +kernel
theorem d_L_law_561 : decode c_L_law 561 = .ok (.aload_n 1, 1) := by decide +kernel
theorem d_L_law_562 : decode c_L_law 562 = .ok (.aload_n 0, 1) := by decide +kernel
theorem d_L_law_563 : decode c_L_law 563 = .ok (.iload_n 3, 1) := by decide +kernel
theorem d_L_law_564 : decode c_L_law 564 = .ok (.iconst 1, 1) := by decide +kernel
theorem d_L_law_565 : decode c_L_law 565 = .ok (.iadd, 1) := by decide +kernel
theorem d_L_law_566 : decode c_L_law 566 = .ok (.iaload, 1) := by decide +kernel
theorem d_L_law_567 : decode c_L_law 567 = .ok (.aload_n 0, 1) := by decide +kernel
theorem d_L_law_568 : decode c_L_law 568 = .ok (.iload_n 3, 1) := by decide +kernel
theorem d_L_law_569 : decode c_L_law 569 = .ok (.iconst 2, 1) := by decide +kernel
theorem d_L_law_570 : decode c_L_law 570 = .ok (.iadd, 1) := by decide +kernel
theorem d_L_law_571 : decode c_L_law 571 = .ok (.iaload, 1) := by decide +kernel
theorem d_L_law_572 : decode c_L_law 572 = .ok (.invokevirtual 85, 3) := by decide +kernel
theorem d_L_law_575 : decode c_L_law 575 = .ok (.aload_n 2, 1) := by decide +kernel
theorem d_L_law_576 : decode c_L_law 576 = .ok (.aload_n 0, 1) := by decide +kernel
theorem d_L_law_577 : decode c_L_law 577 = .ok (.iload_n 3, 1) := by decide +kernel
theorem d_L_law_578 : decode c_L_law 578 = .ok (.iconst 1, 1) := by decide +kernel
theorem d_L_law_579 : decode c_L_law 579 = .ok (.iadd, 1) := by decide +kernel
theorem d_L_law_580 : decode c_L_law 580 = .ok (.iaload, 1) := by decide +kernel
theorem d_L_law_581 : decode c_L_law 581 = .ok (.aload_n 0, 1) := by decide +kernel
theorem d_L_law_582 : decode c_L_law 582 = .ok (.iload_n 3, 1) := by decide +kernel
theorem d_L_law_583 : decode c_L_law 583 = .ok (.iconst 2, 1) := by decide +kernel
theorem d_L_law_584 : decode c_L_law 584 = .ok (.iadd, 1) := by decide +kernel
theorem d_L_law_585 : decode c_L_law 585 = .ok (.iaload, 1) := by decide +kernel
theorem d_L_law_586 : decode c_L_law 586 = .ok (.invokevirtual 89, 3) := by decide +kernel
theorem d_L_law_589 : decode c_L_law 589 = .ok (.if_icmp .eq 28, 3) := by decide +kernel
theorem d_L_law_592 : decode c_L_law 592 = .ok (.iconst 0, 1) := by decide +kernel
theorem d_L_law_593 : decode c_L_law 593 = .ok (.ireturn, 1) := by decide +kernel
theorem d_L_law_594 : decode c_L_law 594 = .ok (.aload_n 1, 1) := by decide +kernel
theorem d_L_law_595 : decode c_L_law 595 = .ok (.aload_n 0, 1) := by decide +kernel
theorem d_L_law_596 : decode c_L_law 596 = .ok (.iload_n 3, 1) := by decide +kernel
theorem d_L_law_597 : decode c_L_law 597 = .ok (.iconst 1, 1) := by decide +kernel
theorem d_L_law_598 : decode c_L_law 598 = .ok (.iadd, 1) := by decide +kernel
theorem d_L_law_599 : decode c_L_law 599 = .ok (.iaload, 1) := by decide +kernel
theorem d_L_law_600 : decode c_L_law 600 = .ok (.invokevirtual 90, 3) := by decide +kernel
theorem d_L_law_603 : decode c_L_law 603 = .ok (.aload_n 2, 1) := by decide +kernel
theorem d_L_law_604 : decode c_L_law 604 = .ok (.aload_n 0, 1) := by decide +kernel
theorem d_L_law_605 : decode c_L_law 605 = .ok (.iload_n 3, 1) := by decide +kernel
theorem d_L_law_606 : decode c_L_law 606 = .ok (.iconst 1, 1) := by decide +kernel
theorem d_L_law_607 : decode c_L_law 607 = .ok (.iadd, 1) := by decide +kernel
theorem d_L_law_608 : decode c_L_law 608 = .ok (.iaload, 1) := by decide +kernel
theorem d_L_law_609 : decode c_L_law 609 = .ok (.invokevirtual 93, 3) := by decide +kernel
theorem d_L_law_612 : decode c_L_law 612 = .ok (.if_icmp .eq 5, 3) := by decide +kernel
theorem d_L_law_615 : decode c_L_law 615 = .ok (.iconst 0, 1) := by decide +kernel
theorem d_L_law_616 : decode c_L_law 616 = .ok (.ireturn, 1) := by decide +kernel
theorem d_L_law_617 : decode c_L_law 617 = .ok (.iinc 3 3, 3) := by decide +kernel
theorem d_L_law_620 : decode c_L_law 620 = .ok (.goto (-602), 3) := by decide +kernel
theorem d_L_law_623 : decode c_L_law 623 = .ok (.iconst 1, 1) := by decide +kernel
theorem d_L_law_624 : decode c_L_law 624 = .ok (.ireturn, 1) := by decide +kernel
theorem d_J_bitCount_0 : decode c_J_bitCount 0 = .ok (.lload_n 0, 1) := by decide +kernel
theorem d_J_bitCount_1 : decode c_J_bitCount 1 = .ok (.lload_n 0, 1) := by decide +kernel
theorem d_J_bitCount_2 : decode c_J_bitCount 2 = .ok (.iconst 1, 1) := by decide +kernel
theorem d_J_bitCount_3 : decode c_J_bitCount 3 = .ok (.lushr, 1) := by decide +kernel
theorem d_J_bitCount_4 : decode c_J_bitCount 4 = .ok (.ldc2_w 314, 3) := by decide +kernel
theorem d_J_bitCount_7 : decode c_J_bitCount 7 = .ok (.land, 1) := by decide +kernel
theorem d_J_bitCount_8 : decode c_J_bitCount 8 = .ok (.lsub, 1) := by decide +kernel
theorem d_J_bitCount_9 : decode c_J_bitCount 9 = .ok (.lstore_n 0, 1) := by decide +kernel
theorem d_J_bitCount_10 : decode c_J_bitCount 10 = .ok (.lload_n 0, 1) := by decide +kernel
theorem d_J_bitCount_11 : decode c_J_bitCount 11 = .ok (.ldc2_w 316, 3) := by decide +kernel
theorem d_J_bitCount_14 : decode c_J_bitCount 14 = .ok (.land, 1) := by decide +kernel
theorem d_J_bitCount_15 : decode c_J_bitCount 15 = .ok (.lload_n 0, 1) := by decide +kernel
theorem d_J_bitCount_16 : decode c_J_bitCount 16 = .ok (.iconst 2, 1) := by decide +kernel
theorem d_J_bitCount_17 : decode c_J_bitCount 17 = .ok (.lushr, 1) := by decide +kernel
theorem d_J_bitCount_18 : decode c_J_bitCount 18 = .ok (.ldc2_w 316, 3) := by decide +kernel
theorem d_J_bitCount_21 : decode c_J_bitCount 21 = .ok (.land, 1) := by decide +kernel
theorem d_J_bitCount_22 : decode c_J_bitCount 22 = .ok (.ladd, 1) := by decide +kernel
theorem d_J_bitCount_23 : decode c_J_bitCount 23 = .ok (.lstore_n 0, 1) := by decide +kernel
theorem d_J_bitCount_24 : decode c_J_bitCount 24 = .ok (.lload_n 0, 1) := by decide +kernel
theorem d_J_bitCount_25 : decode c_J_bitCount 25 = .ok (.lload_n 0, 1) := by decide +kernel
theorem d_J_bitCount_26 : decode c_J_bitCount 26 = .ok (.iconst 4, 1) := by decide +kernel
theorem d_J_bitCount_27 : decode c_J_bitCount 27 = .ok (.lushr, 1) := by decide +kernel
theorem d_J_bitCount_28 : decode c_J_bitCount 28 = .ok (.ladd, 1) := by decide +kernel
theorem d_J_bitCount_29 : decode c_J_bitCount 29 = .ok (.ldc2_w 318, 3) := by decide +kernel
theorem d_J_bitCount_32 : decode c_J_bitCount 32 = .ok (.land, 1) := by decide +kernel
theorem d_J_bitCount_33 : decode c_J_bitCount 33 = .ok (.lstore_n 0, 1) := by decide +kernel
theorem d_J_bitCount_34 : decode c_J_bitCount 34 = .ok (.lload_n 0, 1) := by decide +kernel
theorem d_J_bitCount_35 : decode c_J_bitCount 35 = .ok (.lload_n 0, 1) := by decide +kernel
theorem d_J_bitCount_36 : decode c_J_bitCount 36 = .ok (.bipush 8, 2) := by decide +kernel
theorem d_J_bitCount_38 : decode c_J_bitCount 38 = .ok (.lushr, 1) := by decide +kernel
theorem d_J_bitCount_39 : decode c_J_bitCount 39 = .ok (.ladd, 1) := by decide +kernel
theorem d_J_bitCount_40 : decode c_J_bitCount 40 = .ok (.lstore_n 0, 1) := by decide +kernel
theorem d_J_bitCount_41 : decode c_J_bitCount 41 = .ok (.lload_n 0, 1) := by decide +kernel
theorem d_J_bitCount_42 : decode c_J_bitCount 42 = .ok (.lload_n 0, 1) := by decide +kernel
theorem d_J_bitCount_43 : decode c_J_bitCount 43 = .ok (.bipush 16, 2) := by decide +kernel
theorem d_J_bitCount_45 : decode c_J_bitCount 45 = .ok (.lushr, 1) := by decide +kernel
theorem d_J_bitCount_46 : decode c_J_bitCount 46 = .ok (.ladd, 1) := by decide +kernel
theorem d_J_bitCount_47 : decode c_J_bitCount 47 = .ok (.lstore_n 0, 1) := by decide +kernel
theorem d_J_bitCount_48 : decode c_J_bitCount 48 = .ok (.lload_n 0, 1) := by decide +kernel
theorem d_J_bitCount_49 : decode c_J_bitCount 49 = .ok (.lload_n 0, 1) := by decide +kernel
theorem d_J_bitCount_50 : decode c_J_bitCount 50 = .ok (.bipush 32, 2) := by decide +kernel
theorem d_J_bitCount_52 : decode c_J_bitCount 52 = .ok (.lushr, 1) := by decide +kernel
theorem d_J_bitCount_53 : decode c_J_bitCount 53 = .ok (.ladd, 1) := by decide +kernel
theorem d_J_bitCount_54 : decode c_J_bitCount 54 = .ok (.lstore_n 0, 1) := by decide +kernel
theorem d_J_bitCount_55 : decode c_J_bitCount 55 = .ok (.lload_n 0, 1) := by decide +kernel
theorem d_J_bitCount_56 : decode c_J_bitCount 56 = .ok (.l2i, 1) := by decide +kernel
theorem d_J_bitCount_57 : decode c_J_bitCount 57 = .ok (.bipush 127, 2) := by decide +kernel
theorem d_J_bitCount_59 : decode c_J_bitCount 59 = .ok (.iand, 1) := by decide +kernel
theorem d_J_bitCount_60 : decode c_J_bitCount 60 = .ok (.ireturn, 1) := by decide +kernel
