/-! decode rows, by program out of the listing -/
theorem d_O_deliverTransitional_48 : decode c_O_deliverTransitional 48 = .ok (.aload_n 0, 1) := by decide +kernel
theorem d_O_deliverTransitional_49 : decode c_O_deliverTransitional 49 = .ok (.getfield 28, 3) := by decide +kernel
theorem d_O_deliverTransitional_52 : decode c_O_deliverTransitional 52 = .ok (.getfield 229, 3) := by decide +kernel
theorem d_O_deliverTransitional_55 : decode c_O_deliverTransitional 55 = .ok (.iload 6, 2) := by decide +kernel
theorem d_O_deliverTransitional_57 : decode c_O_deliverTransitional 57 = .ok (.iaload, 1) := by decide +kernel
theorem d_O_deliverTransitional_58 : decode c_O_deliverTransitional 58 = .ok (.invokestatic 212, 3) := by decide +kernel
theorem d_O_deliverTransitional_61 : decode c_O_deliverTransitional 61 = .ok (.ifCond .eq 13, 3) := by decide +kernel
theorem d_O_deliverTransitional_64 : decode c_O_deliverTransitional 64 = .ok (.aload_n 1, 1) := by decide +kernel
theorem d_O_deliverTransitional_65 : decode c_O_deliverTransitional 65 = .ok (.iconst 2, 1) := by decide +kernel
theorem d_O_deliverTransitional_66 : decode c_O_deliverTransitional 66 = .ok (.iload 6, 2) := by decide +kernel
theorem d_O_deliverTransitional_68 : decode c_O_deliverTransitional 68 = .ok (.imul, 1) := by decide +kernel
theorem d_O_deliverTransitional_69 : decode c_O_deliverTransitional 69 = .ok (.iconst 1, 1) := by decide +kernel
theorem d_O_deliverTransitional_70 : decode c_O_deliverTransitional 70 = .ok (.iadd, 1) := by decide +kernel
theorem d_O_deliverTransitional_71 : decode c_O_deliverTransitional 71 = .ok (.invokevirtual 189, 3) := by decide +kernel
theorem d_O_deliverTransitional_74 : decode c_O_deliverTransitional 74 = .ok (.iinc 5 1, 3) := by decide +kernel
theorem d_O_deliverTransitional_77 : decode c_O_deliverTransitional 77 = .ok (.goto (-66), 3) := by decide +kernel
theorem d_O_deliverTransitional_80 : decode c_O_deliverTransitional 80 = .ok (.return_, 1) := by decide +kernel
theorem d_O_enterNewRing_0 : decode c_O_enterNewRing 0 = .ok (.aload_n 0, 1) := by decide +kernel
theorem d_O_enterNewRing_1 : decode c_O_enterNewRing 1 = .ok (.invokevirtual 232, 3) := by decide +kernel
theorem d_O_enterNewRing_4 : decode c_O_enterNewRing 4 = .ok (.astore_n 2, 1) := by decide +kernel
theorem d_O_enterNewRing_5 : decode c_O_enterNewRing 5 = .ok (.aload_n 0, 1) := by decide +kernel
theorem d_O_enterNewRing_6 : decode c_O_enterNewRing 6 = .ok (.dup, 1) := by decide +kernel
theorem d_O_enterNewRing_7 : decode c_O_enterNewRing 7 = .ok (.getfield 32, 3) := by decide +kernel
theorem d_O_enterNewRing_10 : decode c_O_enterNewRing 10 = .ok (.iconst 1, 1) := by decide +kernel
theorem d_O_enterNewRing_11 : decode c_O_enterNewRing 11 = .ok (.iadd, 1) := by decide +kernel
theorem d_O_enterNewRing_12 : decode c_O_enterNewRing 12 = .ok (.putfield 32, 3) := by decide +kernel
theorem d_O_enterNewRing_15 : decode c_O_enterNewRing 15 = .ok (.aload_n 2, 1) := by decide +kernel
theorem d_O_enterNewRing_16 : decode c_O_enterNewRing 16 = .ok (.aload_n 0, 1) := by decide +kernel
theorem d_O_enterNewRing_17 : decode c_O_enterNewRing 17 = .ok (.getfield 32, 3) := by decide +kernel
theorem d_O_enterNewRing_20 : decode c_O_enterNewRing 20 = .ok (.iload_n 1, 1) := by decide +kernel
theorem d_O_enterNewRing_21 : decode c_O_enterNewRing 21 = .ok (.invokevirtual 236, 3) := by decide +kernel
theorem d_O_enterNewRing_24 : decode c_O_enterNewRing 24 = .ok (.iconst 0, 1) := by decide +kernel
theorem d_O_enterNewRing_25 : decode c_O_enterNewRing 25 = .ok (.istore_n 3, 1) := by decide +kernel
theorem d_O_enterNewRing_26 : decode c_O_enterNewRing 26 = .ok (.iload_n 3, 1) := by decide +kernel
theorem d_O_enterNewRing_27 : decode c_O_enterNewRing 27 = .ok (.iconst 5, 1) := by decide +kernel
theorem d_O_enterNewRing_28 : decode c_O_enterNewRing 28 = .ok (.if_icmp .ge 27, 3) := by decide +kernel
theorem d_O_enterNewRing_31 : decode c_O_enterNewRing 31 = .ok (.iload_n 1, 1) := by decide +kernel
theorem d_O_enterNewRing_32 : decode c_O_enterNewRing 32 = .ok (.iload_n 3, 1) := by decide +kernel
theorem d_O_enterNewRing_33 : decode c_O_enterNewRing 33 = .ok (.invokestatic 212, 3) := by decide +kernel
theorem d_O_enterNewRing_36 : decode c_O_enterNewRing 36 = .ok (.ifCond .eq 13, 3) := by decide +kernel
theorem d_O_enterNewRing_39 : decode c_O_enterNewRing 39 = .ok (.aload_n 0, 1) := by decide +kernel
theorem d_O_enterNewRing_40 : decode c_O_enterNewRing 40 = .ok (.getfield 11, 3) := by decide +kernel
theorem d_O_enterNewRing_43 : decode c_O_enterNewRing 43 = .ok (.iload_n 3, 1) := by decide +kernel
theorem d_O_enterNewRing_44 : decode c_O_enterNewRing 44 = .ok (.aaload, 1) := by decide +kernel
theorem d_O_enterNewRing_45 : decode c_O_enterNewRing 45 = .ok (.aload_n 2, 1) := by decide +kernel
theorem d_O_enterNewRing_46 : decode c_O_enterNewRing 46 = .ok (.invokevirtual 240, 3) := by decide +kernel
theorem d_O_enterNewRing_49 : decode c_O_enterNewRing 49 = .ok (.iinc 3 1, 3) := by decide +kernel
theorem d_O_enterNewRing_52 : decode c_O_enterNewRing 52 = .ok (.goto (-26), 3) := by decide +kernel
theorem d_O_enterNewRing_55 : decode c_O_enterNewRing 55 = .ok (.return_, 1) := by decide +kernel
theorem d_O_unusedRing_0 : decode c_O_unusedRing 0 = .ok (.iconst 0, 1) := by decide +kernel
theorem d_O_unusedRing_1 : decode c_O_unusedRing 1 = .ok (.istore_n 1, 1) := by decide +kernel
theorem d_O_unusedRing_2 : decode c_O_unusedRing 2 = .ok (.iload_n 1, 1) := by decide +kernel
theorem d_O_unusedRing_3 : decode c_O_unusedRing 3 = .ok (.iconst 5, 1) := by decide +kernel
theorem d_O_unusedRing_4 : decode c_O_unusedRing 4 = .ok (.if_icmp .ge 29, 3) := by decide +kernel
theorem d_O_unusedRing_7 : decode c_O_unusedRing 7 = .ok (.aload_n 0, 1) := by decide +kernel
theorem d_O_unusedRing_8 : decode c_O_unusedRing 8 = .ok (.aload_n 0, 1) := by decide +kernel
theorem d_O_unusedRing_9 : decode c_O_unusedRing 9 = .ok (.getfield 20, 3) := by decide +kernel
theorem d_O_unusedRing_12 : decode c_O_unusedRing 12 = .ok (.iload_n 1, 1) := by decide +kernel
theorem d_O_unusedRing_13 : decode c_O_unusedRing 13 = .ok (.aaload, 1) := by decide +kernel
theorem d_O_unusedRing_14 : decode c_O_unusedRing 14 = .ok (.invokevirtual 204, 3) := by decide +kernel
theorem d_O_unusedRing_17 : decode c_O_unusedRing 17 = .ok (.ifCond .ne 10, 3) := by decide +kernel
theorem d_O_unusedRing_20 : decode c_O_unusedRing 20 = .ok (.aload_n 0, 1) := by decide +kernel
theorem d_O_unusedRing_21 : decode c_O_unusedRing 21 = .ok (.getfield 20, 3) := by decide +kernel
theorem d_O_unusedRing_24 : decode c_O_unusedRing 24 = .ok (.iload_n 1, 1) := by decide +kernel
theorem d_O_unusedRing_25 : decode c_O_unusedRing 25 = .ok (.aaload, 1) := by decide +kernel
theorem d_O_unusedRing_26 : decode c_O_unusedRing 26 = .ok (.areturn, 1) := by decide +kernel
theorem d_O_unusedRing_27 : decode c_O_unusedRing 27 = .ok (.iinc 1 1, 3) := by decide +kernel
theorem d_O_unusedRing_30 : decode c_O_unusedRing 30 = .ok (.goto (-28), 3) := by decide +kernel
theorem d_O_unusedRing_33 : decode c_O_unusedRing 33 = .ok (.aload_n 0, 1) := by decide +kernel
theorem d_O_unusedRing_34 : decode c_O_unusedRing 34 = .ok (.getfield 20, 3) := by decide +kernel
theorem d_O_unusedRing_37 : decode c_O_unusedRing 37 = .ok (.iconst 5, 1) := by decide +kernel
theorem d_O_unusedRing_38 : decode c_O_unusedRing 38 = .ok (.aaload, 1) := by decide +kernel
theorem d_O_unusedRing_39 : decode c_O_unusedRing 39 = .ok (.areturn, 1) := by decide +kernel
theorem d_O_nodesOf_0 : decode c_O_nodesOf 0 = .ok (.iconst 0, 1) := by decide +kernel
theorem d_O_nodesOf_1 : decode c_O_nodesOf 1 = .ok (.istore_n 2, 1) := by decide +kernel
theorem d_O_nodesOf_2 : decode c_O_nodesOf 2 = .ok (.iconst 0, 1) := by decide +kernel
theorem d_O_nodesOf_3 : decode c_O_nodesOf 3 = .ok (.istore_n 3, 1) := by decide +kernel
theorem d_O_nodesOf_4 : decode c_O_nodesOf 4 = .ok (.iload_n 3, 1) := by decide +kernel
theorem d_O_nodesOf_5 : decode c_O_nodesOf 5 = .ok (.iconst 5, 1) := by decide +kernel
theorem d_O_nodesOf_6 : decode c_O_nodesOf 6 = .ok (.if_icmp .ge 28, 3) := by decide +kernel
theorem d_O_nodesOf_9 : decode c_O_nodesOf 9 = .ok (.aload_n 0, 1) := by decide +kernel
theorem d_O_nodesOf_10 : decode c_O_nodesOf 10 = .ok (.getfield 11, 3) := by decide +kernel
theorem d_O_nodesOf_13 : decode c_O_nodesOf 13 = .ok (.iload_n 3, 1) := by decide +kernel
theorem d_O_nodesOf_14 : decode c_O_nodesOf 14 = .ok (.aaload, 1) := by decide +kernel
theorem d_O_nodesOf_15 : decode c_O_nodesOf 15 = .ok (.getfield 60, 3) := by decide +kernel
theorem d_O_nodesOf_18 : decode c_O_nodesOf 18 = .ok (.aload_n 1, 1) := by decide +kernel
theorem d_O_nodesOf_19 : decode c_O_nodesOf 19 = .ok (.if_acmp .ne 9, 3) := by decide +kernel
theorem d_O_nodesOf_22 : decode c_O_nodesOf 22 = .ok (.iload_n 2, 1) := by decide +kernel
theorem d_O_nodesOf_23 : decode c_O_nodesOf 23 = .ok (.iconst 1, 1) := by decide +kernel
theorem d_O_nodesOf_24 : decode c_O_nodesOf 24 = .ok (.iload_n 3, 1) := by decide +kernel
theorem d_O_nodesOf_25 : decode c_O_nodesOf 25 = .ok (.ishl, 1) := by decide +kernel
theorem d_O_nodesOf_26 : decode c_O_nodesOf 26 = .ok (.ior, 1) := by decide +kernel
theorem d_O_nodesOf_27 : decode c_O_nodesOf 27 = .ok (.istore_n 2, 1) := by decide +kernel
theorem d_O_nodesOf_28 : decode c_O_nodesOf 28 = .ok (.iinc 3 1, 3) := by decide +kernel
theorem d_O_nodesOf_31 : decode c_O_nodesOf 31 = .ok (.goto (-27), 3) := by decide +kernel
theorem d_O_nodesOf_34 : decode c_O_nodesOf 34 = .ok (.iload_n 2, 1) := by decide +kernel
theorem d_O_nodesOf_35 : decode c_O_nodesOf 35 = .ok (.ireturn, 1) := by decide +kernel
theorem d_O_upNodesIn_0 : decode c_O_upNodesIn 0 = .ok (.iconst 0, 1) := by decide +kernel
theorem d_O_upNodesIn_1 : decode c_O_upNodesIn 1 = .ok (.istore_n 2, 1) := by decide +kernel
theorem d_O_upNodesIn_2 : decode c_O_upNodesIn 2 = .ok (.iconst 0, 1) := by decide +kernel
theorem d_O_upNodesIn_3 : decode c_O_upNodesIn 3 = .ok (.istore_n 3, 1) := by decide +kernel
theorem d_O_upNodesIn_4 : decode c_O_upNodesIn 4 = .ok (.iload_n 3, 1) := by decide +kernel
theorem d_O_upNodesIn_5 : decode c_O_upNodesIn 5 = .ok (.iconst 5, 1) := by decide +kernel
theorem d_O_upNodesIn_6 : decode c_O_upNodesIn 6 = .ok (.if_icmp .ge 40, 3) := by decide +kernel
theorem d_O_upNodesIn_9 : decode c_O_upNodesIn 9 = .ok (.aload_n 0, 1) := by decide +kernel
theorem d_O_upNodesIn_10 : decode c_O_upNodesIn 10 = .ok (.getfield 11, 3) := by decide +kernel
theorem d_O_upNodesIn_13 : decode c_O_upNodesIn 13 = .ok (.iload_n 3, 1) := by decide +kernel
theorem d_O_upNodesIn_14 : decode c_O_upNodesIn 14 = .ok (.aaload, 1) := by decide +kernel
theorem d_O_upNodesIn_15 : decode c_O_upNodesIn 15 = .ok (.invokevirtual 43, 3) := by decide +kernel
theorem d_O_upNodesIn_18 : decode c_O_upNodesIn 18 = .ok (.ifCond .eq 22, 3) := by decide +kernel
theorem d_O_upNodesIn_21 : decode c_O_upNodesIn 21 = .ok (.aload_n 0, 1) := by decide +kernel
theorem d_O_upNodesIn_22 : decode c_O_upNodesIn 22 = .ok (.getfield 11, 3) := by decide +kernel
theorem d_O_upNodesIn_25 : decode c_O_upNodesIn 25 = .ok (.iload_n 3, 1) := by decide +kernel
theorem d_O_upNodesIn_26 : decode c_O_upNodesIn 26 = .ok (.aaload, 1) := by decide +kernel
theorem d_O_upNodesIn_27 : decode c_O_upNodesIn 27 = .ok (.getfield 96, 3) := by decide +kernel
theorem d_O_upNodesIn_30 : decode c_O_upNodesIn 30 = .ok (.iload_n 1, 1) := by decide +kernel
theorem d_O_upNodesIn_31 : decode c_O_upNodesIn 31 = .ok (.if_icmp .ne 9, 3) := by decide +kernel
theorem d_O_upNodesIn_34 : decode c_O_upNodesIn 34 = .ok (.iload_n 2, 1) := by decide +kernel
theorem d_O_upNodesIn_35 : decode c_O_upNodesIn 35 = .ok (.iconst 1, 1) := by decide +kernel
theorem d_O_upNodesIn_36 : decode c_O_upNodesIn 36 = .ok (.iload_n 3, 1) := by decide +kernel
theorem d_O_upNodesIn_37 : decode c_O_upNodesIn 37 = .ok (.ishl, 1) := by decide +kernel
theorem d_O_upNodesIn_38 : decode c_O_upNodesIn 38 = .ok (.ior, 1) := by decide +kernel
theorem d_O_upNodesIn_39 : decode c_O_upNodesIn 39 = .ok (.istore_n 2, 1) := by decide +kernel
theorem d_O_upNodesIn_40 : decode c_O_upNodesIn 40 = .ok (.iinc 3 1, 3) := by decide +kernel
theorem d_O_upNodesIn_43 : decode c_O_upNodesIn 43 = .ok (.goto (-39), 3) := by decide +kernel
theorem d_O_upNodesIn_46 : decode c_O_upNodesIn 46 = .ok (.iload_n 2, 1) := by decide +kernel
theorem d_O_upNodesIn_47 : decode c_O_upNodesIn 47 = .ok (.ireturn, 1) := by decide +kernel
theorem d_Y_init_0 : decode c_Y_init 0 = .ok (.aload_n 0, 1) := by decide +kernel
theorem d_Y_init_1 : decode c_Y_init 1 = .ok (.invokespecial 1, 3) := by decide +kernel
theorem d_Y_init_4 : decode c_Y_init 4 = .ok (.aload_n 0, 1) := by decide +kernel
theorem d_Y_init_5 : decode c_Y_init 5 = .ok (.iconst 5, 1) := by decide +kernel
theorem d_Y_init_6 : decode c_Y_init 6 = .ok (.newarray .boolean, 2) := by decide +kernel
theorem d_Y_init_8 : decode c_Y_init 8 = .ok (.putfield 7, 3) := by decide +kernel
theorem d_Y_init_11 : decode c_Y_init 11 = .ok (.aload_n 0, 1) := by decide +kernel
theorem d_Y_init_12 : decode c_Y_init 12 = .ok (.iconst 5, 1) := by decide +kernel
theorem d_Y_init_13 : decode c_Y_init 13 = .ok (.newarray .int, 2) := by decide +kernel
theorem d_Y_init_15 : decode c_Y_init 15 = .ok (.putfield 13, 3) := by decide +kernel
theorem d_Y_init_18 : decode c_Y_init 18 = .ok (.aload_n 0, 1) := by decide +kernel
theorem d_Y_init_19 : decode c_Y_init 19 = .ok (.iconst 5, 1) := by decide +kernel
theorem d_Y_init_20 : decode c_Y_init 20 = .ok (.newarray .int, 2) := by decide +kernel
theorem d_Y_init_22 : decode c_Y_init 22 = .ok (.putfield 17, 3) := by decide +kernel
theorem d_Y_init_25 : decode c_Y_init 25 = .ok (.aload_n 0, 1) := by decide +kernel
theorem d_Y_init_26 : decode c_Y_init 26 = .ok (.iconst 5, 1) := by decide +kernel
theorem d_Y_init_27 : decode c_Y_init 27 = .ok (.newarray .int, 2) := by decide +kernel
theorem d_Y_init_29 : decode c_Y_init 29 = .ok (.putfield 20, 3) := by decide +kernel
theorem d_Y_init_32 : decode c_Y_init 32 = .ok (.aload_n 0, 1) := by decide +kernel
theorem d_Y_init_33 : decode c_Y_init 33 = .ok (.iconst 5, 1) := by decide +kernel
theorem d_Y_init_34 : decode c_Y_init 34 = .ok (.newarray .int, 2) := by decide +kernel
theorem d_Y_init_36 : decode c_Y_init 36 = .ok (.putfield 23, 3) := by decide +kernel
theorem d_Y_init_39 : decode c_Y_init 39 = .ok (.aload_n 0, 1) := by decide +kernel
theorem d_Y_init_40 : decode c_Y_init 40 = .ok (.iconst 5, 1) := by decide +kernel
theorem d_Y_init_41 : decode c_Y_init 41 = .ok (.newarray .int, 2) := by decide +kernel
theorem d_Y_init_43 : decode c_Y_init 43 = .ok (.putfield 26, 3) := by decide +kernel
theorem d_Y_init_46 : decode c_Y_init 46 = .ok (.aload_n 0, 1) := by decide +kernel
theorem d_Y_init_47 : decode c_Y_init 47 = .ok (.iconst 5, 1) := by decide +kernel
theorem d_Y_init_48 : decode c_Y_init 48 = .ok (.newarray .int, 2) := by decide +kernel
theorem d_Y_init_50 : decode c_Y_init 50 = .ok (.putfield 29, 3) := by decide +kernel
theorem d_Y_init_53 : decode c_Y_init 53 = .ok (.aload_n 0, 1) := by decide +kernel
theorem d_Y_init_54 : decode c_Y_init 54 = .ok (.sipush 245, 3) := by decide +kernel
theorem d_Y_init_57 : decode c_Y_init 57 = .ok (.newarray .boolean, 2) := by decide +kernel
theorem d_Y_init_59 : decode c_Y_init 59 = .ok (.putfield 32, 3) := by decide +kernel
theorem d_Y_init_62 : decode c_Y_init 62 = .ok (.aload_n 0, 1) := by decide +kernel
theorem d_Y_init_63 : decode c_Y_init 63 = .ok (.sipush 240, 3) := by decide +kernel
theorem d_Y_init_66 : decode c_Y_init 66 = .ok (.newarray .int, 2) := by decide +kernel
theorem d_Y_init_68 : decode c_Y_init 68 = .ok (.putfield 35, 3) := by decide +kernel
theorem d_Y_init_71 : decode c_Y_init 71 = .ok (.aload_n 0, 1) := by decide +kernel
theorem d_Y_init_72 : decode c_Y_init 72 = .ok (.iconst 5, 1) := by decide +kernel
theorem d_Y_init_73 : decode c_Y_init 73 = .ok (.newarray .int, 2) := by decide +kernel
theorem d_Y_init_75 : decode c_Y_init 75 = .ok (.putfield 38, 3) := by decide +kernel
theorem d_Y_init_78 : decode c_Y_init 78 = .ok (.aload_n 0, 1) := by decide +kernel
theorem d_Y_init_79 : decode c_Y_init 79 = .ok (.bipush 49, 2) := by decide +kernel
theorem d_Y_init_81 : decode c_Y_init 81 = .ok (.newarray .int, 2) := by decide +kernel
theorem d_Y_init_83 : decode c_Y_init 83 = .ok (.putfield 41, 3) := by decide +kernel
theorem d_Y_init_86 : decode c_Y_init 86 = .ok (.aload_n 0, 1) := by decide +kernel
theorem d_Y_init_87 : decode c_Y_init 87 = .ok (.bipush 49, 2) := by decide +kernel
theorem d_Y_init_89 : decode c_Y_init 89 = .ok (.newarray .boolean, 2) := by decide +kernel
theorem d_Y_init_91 : decode c_Y_init 91 = .ok (.putfield 44, 3) := by decide +kernel
theorem d_Y_init_94 : decode c_Y_init 94 = .ok (.aload_n 0, 1) := by decide +kernel
theorem d_Y_init_95 : decode c_Y_init 95 = .ok (.bipush 49, 2) := by decide +kernel
theorem d_Y_init_97 : decode c_Y_init 97 = .ok (.newarray .boolean, 2) := by decide +kernel
theorem d_Y_init_99 : decode c_Y_init 99 = .ok (.putfield 47, 3) := by decide +kernel
theorem d_Y_init_102 : decode c_Y_init 102 = .ok (.aload_n 0, 1) := by decide +kernel
theorem d_Y_init_103 : decode c_Y_init 103 = .ok (.bipush 49, 2) := by decide +kernel
theorem d_Y_init_105 : decode c_Y_init 105 = .ok (.newarray .int, 2) := by decide +kernel
theorem d_Y_init_107 : decode c_Y_init 107 = .ok (.putfield 50, 3) := by decide +kernel
theorem d_Y_init_110 : decode c_Y_init 110 = .ok (.aload_n 0, 1) := by decide +kernel
theorem d_Y_init_111 : decode c_Y_init 111 = .ok (.bipush 49, 2) := by decide +kernel
theorem d_Y_init_113 : decode c_Y_init 113 = .ok (.newarray .int, 2) := by decide +kernel
theorem d_Y_init_115 : decode c_Y_init 115 = .ok (.putfield 53, 3) := by decide +kernel
theorem d_Y_init_118 : decode c_Y_init 118 = .ok (.aload_n 0, 1) := by decide +kernel
theorem d_Y_init_119 : decode c_Y_init 119 = .ok (.sipush 520, 3) := by decide +kernel
theorem d_Y_init_122 : decode c_Y_init 122 = .ok (.newarray .int, 2) := by decide +kernel
theorem d_Y_init_124 : decode c_Y_init 124 = .ok (.putfield 56, 3) := by decide +kernel
theorem d_Y_init_127 : decode c_Y_init 127 = .ok (.aload_n 0, 1) := by decide +kernel
theorem d_Y_init_128 : decode c_Y_init 128 = .ok (.sipush 520, 3) := by decide +kernel
theorem d_Y_init_131 : decode c_Y_init 131 = .ok (.newarray .int, 2) := by decide +kernel
theorem d_Y_init_133 : decode c_Y_init 133 = .ok (.putfield 59, 3) := by decide +kernel
theorem d_Y_init_136 : decode c_Y_init 136 = .ok (.aload_n 0, 1) := by decide +kernel
theorem d_Y_init_137 : decode c_Y_init 137 = .ok (.sipush 520, 3) := by decide +kernel
theorem d_Y_init_140 : decode c_Y_init 140 = .ok (.newarray .int, 2) := by decide +kernel
theorem d_Y_init_142 : decode c_Y_init 142 = .ok (.putfield 62, 3) := by decide +kernel
theorem d_Y_init_145 : decode c_Y_init 145 = .ok (.aload_n 0, 1) := by decide +kernel
theorem d_Y_init_146 : decode c_Y_init 146 = .ok (.sipush 2600, 3) := by decide +kernel
theorem d_Y_init_149 : decode c_Y_init 149 = .ok (.newarray .int, 2) := by decide +kernel
theorem d_Y_init_151 : decode c_Y_init 151 = .ok (.putfield 65, 3) := by decide +kernel
theorem d_Y_init_154 : decode c_Y_init 154 = .ok (.aload_n 0, 1) := by decide +kernel
theorem d_Y_init_155 : decode c_Y_init 155 = .ok (.sipush 520, 3) := by decide +kernel
theorem d_Y_init_158 : decode c_Y_init 158 = .ok (.newarray .long, 2) := by decide +kernel
theorem d_Y_init_160 : decode c_Y_init 160 = .ok (.putfield 68, 3) := by decide +kernel
theorem d_Y_init_163 : decode c_Y_init 163 = .ok (.aload_n 0, 1) := by decide +kernel
theorem d_Y_init_164 : decode c_Y_init 164 = .ok (.iconst 1, 1) := by decide +kernel
theorem d_Y_init_165 : decode c_Y_init 165 = .ok (.putfield 72, 3) := by decide +kernel
theorem d_Y_init_168 : decode c_Y_init 168 = .ok (.aload_n 0, 1) := by decide +kernel
theorem d_Y_init_169 : decode c_Y_init 169 = .ok (.getfield 62, 3) := by decide +kernel
theorem d_Y_init_172 : decode c_Y_init 172 = .ok (.iconst 1, 1) := by decide +kernel
theorem d_Y_init_173 : decode c_Y_init 173 = .ok (.bipush 31, 2) := by decide +kernel
theorem d_Y_init_175 : decode c_Y_init 175 = .ok (.iastore, 1) := by decide +kernel
theorem d_Y_init_176 : decode c_Y_init 176 = .ok (.iconst 0, 1) := by decide +kernel
theorem d_Y_init_177 : decode c_Y_init 177 = .ok (.istore_n 1, 1) := by decide +kernel
theorem d_Y_init_178 : decode c_Y_init 178 = .ok (.iload_n 1, 1) := by decide +kernel
theorem d_Y_init_179 : decode c_Y_init 179 = .ok (.iconst 5, 1) := by decide +kernel
theorem d_Y_init_180 : decode c_Y_init 180 = .ok (.if_icmp .ge 23, 3) := by decide +kernel
theorem d_Y_init_183 : decode c_Y_init 183 = .ok (.aload_n 0, 1) := by decide +kernel
theorem d_Y_init_184 : decode c_Y_init 184 = .ok (.getfield 7, 3) := by decide +kernel
theorem d_Y_init_187 : decode c_Y_init 187 = .ok (.iload_n 1, 1) := by decide +kernel
theorem d_Y_init_188 : decode c_Y_init 188 = .ok (.iconst 1, 1) := by decide +kernel
theorem d_Y_init_189 : decode c_Y_init 189 = .ok (.bastore, 1) := by decide +kernel
theorem d_Y_init_190 : decode c_Y_init 190 = .ok (.aload_n 0, 1) := by decide +kernel
theorem d_Y_init_191 : decode c_Y_init 191 = .ok (.getfield 17, 3) := by decide +kernel
theorem d_Y_init_194 : decode c_Y_init 194 = .ok (.iload_n 1, 1) := by decide +kernel
theorem d_Y_init_195 : decode c_Y_init 195 = .ok (.iconst 1, 1) := by decide +kernel
theorem d_Y_init_196 : decode c_Y_init 196 = .ok (.iastore, 1) := by decide +kernel
theorem d_Y_init_197 : decode c_Y_init 197 = .ok (.iinc 1 1, 3) := by decide +kernel
theorem d_Y_init_200 : decode c_Y_init 200 = .ok (.goto (-22), 3) := by decide +kernel
theorem d_Y_init_203 : decode c_Y_init 203 = .ok (.return_, 1) := by decide +kernel
theorem d_Y_outside_0 : decode c_Y_outside 0 = .ok (.iload_n 0, 1) := by decide +kernel
theorem d_Y_outside_1 : decode c_Y_outside 1 = .ok (.ifCond .lt 8, 3) := by decide +kernel
theorem d_Y_outside_4 : decode c_Y_outside 4 = .ok (.iload_n 0, 1) := by decide +kernel
theorem d_Y_outside_5 : decode c_Y_outside 5 = .ok (.iconst 4, 1) := by decide +kernel
theorem d_Y_outside_6 : decode c_Y_outside 6 = .ok (.if_icmp .le 7, 3) := by decide +kernel
theorem d_Y_outside_9 : decode c_Y_outside 9 = .ok (.iconst 1, 1) := by decide +kernel
theorem d_Y_outside_10 : decode c_Y_outside 10 = .ok (.goto 4, 3) := by decide +kernel
theorem d_Y_outside_13 : decode c_Y_outside 13 = .ok (.iconst 0, 1) := by decide +kernel
theorem d_Y_outside_14 : decode c_Y_outside 14 = .ok (.ireturn, 1) := by decide +kernel
theorem d_Y_refuse_0 : decode c_Y_refuse 0 = .ok (.iload_n 1, 1) := by decide +kernel
theorem d_Y_refuse_1 : decode c_Y_refuse 1 = .ok (.invokestatic 76, 3) := by decide +kernel
theorem d_Y_refuse_4 : decode c_Y_refuse 4 = .ok (.ifCond .eq 8, 3) := by decide +kernel
theorem d_Y_refuse_7 : decode c_Y_refuse 7 = .ok (.bipush (-3), 2) := by decide +kernel
theorem d_Y_refuse_9 : decode c_Y_refuse 9 = .ok (.goto 18, 3) := by decide +kernel
theorem d_Y_refuse_12 : decode c_Y_refuse 12 = .ok (.aload_n 0, 1) := by decide +kernel
theorem d_Y_refuse_13 : decode c_Y_refuse 13 = .ok (.getfield 7, 3) := by decide +kernel
theorem d_Y_refuse_16 : decode c_Y_refuse 16 = .ok (.iload_n 1, 1) := by decide +kernel
theorem d_Y_refuse_17 : decode c_Y_refuse 17 = .ok (.baload, 1) := by decide +kernel
theorem d_Y_refuse_18 : decode c_Y_refuse 18 = .ok (.ifCond .eq 7, 3) := by decide +kernel
theorem d_Y_refuse_21 : decode c_Y_refuse 21 = .ok (.iconst 0, 1) := by decide +kernel
theorem d_Y_refuse_22 : decode c_Y_refuse 22 = .ok (.goto 5, 3) := by decide +kernel
theorem d_Y_refuse_25 : decode c_Y_refuse 25 = .ok (.bipush (-2), 2) := by decide +kernel
theorem d_Y_refuse_27 : decode c_Y_refuse 27 = .ok (.ireturn, 1) := by decide +kernel
theorem d_Y_hears_0 : decode c_Y_hears 0 = .ok (.aload_n 0, 1) := by decide +kernel
theorem d_Y_hears_1 : decode c_Y_hears 1 = .ok (.getfield 7, 3) := by decide +kernel
theorem d_Y_hears_4 : decode c_Y_hears 4 = .ok (.iload_n 1, 1) := by decide +kernel
theorem d_Y_hears_5 : decode c_Y_hears 5 = .ok (.baload, 1) := by decide +kernel
theorem d_Y_hears_6 : decode c_Y_hears 6 = .ok (.ifCond .eq 46, 3) := by decide +kernel
theorem d_Y_hears_9 : decode c_Y_hears 9 = .ok (.aload_n 0, 1) := by decide +kernel
theorem d_Y_hears_10 : decode c_Y_hears 10 = .ok (.getfield 7, 3) := by decide +kernel
theorem d_Y_hears_13 : decode c_Y_hears 13 = .ok (.iload_n 2, 1) := by decide +kernel
theorem d_Y_hears_14 : decode c_Y_hears 14 = .ok (.baload, 1) := by decide +kernel
theorem d_Y_hears_15 : decode c_Y_hears 15 = .ok (.ifCond .eq 37, 3) := by decide +kernel
theorem d_Y_hears_18 : decode c_Y_hears 18 = .ok (.aload_n 0, 1) := by decide +kernel
theorem d_Y_hears_19 : decode c_Y_hears 19 = .ok (.getfield 13, 3) := by decide +kernel
theorem d_Y_hears_22 : decode c_Y_hears 22 = .ok (.iload_n 1, 1) := by decide +kernel
theorem d_Y_hears_23 : decode c_Y_hears 23 = .ok (.iaload, 1) := by decide +kernel
theorem d_Y_hears_24 : decode c_Y_hears 24 = .ok (.aload_n 0, 1) := by decide +kernel
theorem d_Y_hears_25 : decode c_Y_hears 25 = .ok (.getfield 13, 3) := by decide +kernel
theorem d_Y_hears_28 : decode c_Y_hears 28 = .ok (.iload_n 2, 1) := by decide +kernel
theorem d_Y_hears_29 : decode c_Y_hears 29 = .ok (.iaload, 1) := by decide +kernel
theorem d_Y_hears_30 : decode c_Y_hears 30 = .ok (.if_icmp .ne 22, 3) := by decide +kernel
theorem d_Y_hears_33 : decode c_Y_hears 33 = .ok (.aload_n 0, 1) := by decide +kernel
theorem d_Y_hears_34 : decode c_Y_hears 34 = .ok (.getfield 17, 3) := by decide +kernel
theorem d_Y_hears_37 : decode c_Y_hears 37 = .ok (.iload_n 1, 1) := by decide +kernel
theorem d_Y_hears_38 : decode c_Y_hears 38 = .ok (.iaload, 1) := by decide +kernel
theorem d_Y_hears_39 : decode c_Y_hears 39 = .ok (.aload_n 0, 1) := by decide +kernel
theorem d_Y_hears_40 : decode c_Y_hears 40 = .ok (.getfield 17, 3) := by decide +kernel
theorem d_Y_hears_43 : decode c_Y_hears 43 = .ok (.iload_n 2, 1) := by decide +kernel
theorem d_Y_hears_44 : decode c_Y_hears 44 = .ok (.iaload, 1) := by decide +kernel
theorem d_Y_hears_45 : decode c_Y_hears 45 = .ok (.if_icmp .ne 7, 3) := by decide +kernel
theorem d_Y_hears_48 : decode c_Y_hears 48 = .ok (.iconst 1, 1) := by decide +kernel
theorem d_Y_hears_49 : decode c_Y_hears 49 = .ok (.goto 4, 3) := by decide +kernel
theorem d_Y_hears_52 : decode c_Y_hears 52 = .ok (.iconst 0, 1) := by decide +kernel
theorem d_Y_hears_53 : decode c_Y_hears 53 = .ok (.ireturn, 1) := by decide +kernel
theorem d_Y_message_0 : decode c_Y_message 0 = .ok (.iconst 1, 1) := by decide +kernel
theorem d_Y_message_1 : decode c_Y_message 1 = .ok (.istore_n 3, 1) := by decide +kernel
theorem d_Y_message_2 : decode c_Y_message 2 = .ok (.iload_n 3, 1) := by decide +kernel
theorem d_Y_message_3 : decode c_Y_message 3 = .ok (.aload_n 0, 1) := by decide +kernel
theorem d_Y_message_4 : decode c_Y_message 4 = .ok (.getfield 80, 3) := by decide +kernel
theorem d_Y_message_7 : decode c_Y_message 7 = .ok (.if_icmp .gt 31, 3) := by decide +kernel
theorem d_Y_message_10 : decode c_Y_message 10 = .ok (.aload_n 0, 1) := by decide +kernel
theorem d_Y_message_11 : decode c_Y_message 11 = .ok (.getfield 53, 3) := by decide +kernel
theorem d_Y_message_14 : decode c_Y_message 14 = .ok (.iload_n 3, 1) := by decide +kernel
theorem d_Y_message_15 : decode c_Y_message 15 = .ok (.iaload, 1) := by decide +kernel
theorem d_Y_message_16 : decode c_Y_message 16 = .ok (.iload_n 2, 1) := by decide +kernel
theorem d_Y_message_17 : decode c_Y_message 17 = .ok (.if_icmp .ne 15, 3) := by decide +kernel
theorem d_Y_message_20 : decode c_Y_message 20 = .ok (.aload_n 0, 1) := by decide +kernel
theorem d_Y_message_21 : decode c_Y_message 21 = .ok (.getfield 50, 3) := by decide +kernel
theorem d_Y_message_24 : decode c_Y_message 24 = .ok (.iload_n 3, 1) := by decide +kernel
theorem d_Y_message_25 : decode c_Y_message 25 = .ok (.iaload, 1) := by decide +kernel
theorem d_Y_message_26 : decode c_Y_message 26 = .ok (.iload_n 1, 1) := by decide +kernel
theorem d_Y_message_27 : decode c_Y_message 27 = .ok (.if_icmp .ne 5, 3) := by decide +kernel
theorem d_Y_message_30 : decode c_Y_message 30 = .ok (.iload_n 3, 1) := by decide +kernel
theorem d_Y_message_31 : decode c_Y_message 31 = .ok (.ireturn, 1) := by decide +kernel
theorem d_Y_message_32 : decode c_Y_message 32 = .ok (.iinc 3 1, 3) := by decide +kernel
theorem d_Y_message_35 : decode c_Y_message 35 = .ok (.goto (-33), 3) := by decide +kernel
theorem d_Y_message_38 : decode c_Y_message 38 = .ok (.iconst 0, 1) := by decide +kernel
theorem d_Y_message_39 : decode c_Y_message 39 = .ok (.ireturn, 1) := by decide +kernel
theorem d_Y_has_0 : decode c_Y_has 0 = .ok (.aload_n 0, 1) := by decide +kernel
theorem d_Y_has_1 : decode c_Y_has 1 = .ok (.aload_n 0, 1) := by decide +kernel
theorem d_Y_has_2 : decode c_Y_has 2 = .ok (.getfield 17, 3) := by decide +kernel
theorem d_Y_has_5 : decode c_Y_has 5 = .ok (.iload_n 1, 1) := by decide +kernel
theorem d_Y_has_6 : decode c_Y_has 6 = .ok (.iaload, 1) := by decide +kernel
theorem d_Y_has_7 : decode c_Y_has 7 = .ok (.iload_n 2, 1) := by decide +kernel
theorem d_Y_has_8 : decode c_Y_has 8 = .ok (.invokevirtual 83, 3) := by decide +kernel
theorem d_Y_has_11 : decode c_Y_has 11 = .ok (.istore_n 3, 1) := by decide +kernel
theorem d_Y_has_12 : decode c_Y_has 12 = .ok (.iload_n 3, 1) := by decide +kernel
theorem d_Y_has_13 : decode c_Y_has 13 = .ok (.ifCond .le 21, 3) := by decide +kernel
theorem d_Y_has_16 : decode c_Y_has 16 = .ok (.aload_n 0, 1) := by decide +kernel
theorem d_Y_has_17 : decode c_Y_has 17 = .ok (.getfield 32, 3) := by decide +kernel
theorem d_Y_has_20 : decode c_Y_has 20 = .ok (.bipush 49, 2) := by decide +kernel
theorem d_Y_has_22 : decode c_Y_has 22 = .ok (.iload_n 1, 1) := by decide +kernel
theorem d_Y_has_23 : decode c_Y_has 23 = .ok (.imul, 1) := by decide +kernel
theorem d_Y_has_24 : decode c_Y_has 24 = .ok (.iload_n 3, 1) := by decide +kernel
theorem d_Y_has_25 : decode c_Y_has 25 = .ok (.iadd, 1) := by decide +kernel
theorem d_Y_has_26 : decode c_Y_has 26 = .ok (.baload, 1) := by decide +kernel
theorem d_Y_has_27 : decode c_Y_has 27 = .ok (.ifCond .eq 7, 3) := by decide +kernel
theorem d_Y_has_30 : decode c_Y_has 30 = .ok (.iconst 1, 1) := by decide +kernel
theorem d_Y_has_31 : decode c_Y_has 31 = .ok (.goto 4, 3) := by decide +kernel
theorem d_Y_has_34 : decode c_Y_has 34 = .ok (.iconst 0, 1) := by decide +kernel
theorem d_Y_has_35 : decode c_Y_has 35 = .ok (.ireturn, 1) := by decide +kernel
theorem d_Y_reachOf_0 : decode c_Y_reachOf 0 = .ok (.iconst 0, 1) := by decide +kernel
theorem d_Y_reachOf_1 : decode c_Y_reachOf 1 = .ok (.istore_n 2, 1) := by decide +kernel
theorem d_Y_reachOf_2 : decode c_Y_reachOf 2 = .ok (.iload_n 2, 1) := by decide +kernel
theorem d_Y_reachOf_3 : decode c_Y_reachOf 3 = .ok (.bipush 48, 2) := by decide +kernel
theorem d_Y_reachOf_5 : decode c_Y_reachOf 5 = .ok (.if_icmp .ge 20, 3) := by decide +kernel
theorem d_Y_reachOf_8 : decode c_Y_reachOf 8 = .ok (.aload_n 0, 1) := by decide +kernel
theorem d_Y_reachOf_9 : decode c_Y_reachOf 9 = .ok (.iload_n 1, 1) := by decide +kernel
theorem d_Y_reachOf_10 : decode c_Y_reachOf 10 = .ok (.iload_n 2, 1) := by decide +kernel
theorem d_Y_reachOf_11 : decode c_Y_reachOf 11 = .ok (.iconst 1, 1) := by decide +kernel
theorem d_Y_reachOf_12 : decode c_Y_reachOf 12 = .ok (.iadd, 1) := by decide +kernel
theorem d_Y_reachOf_13 : decode c_Y_reachOf 13 = .ok (.invokevirtual 87, 3) := by decide +kernel
theorem d_Y_reachOf_16 : decode c_Y_reachOf 16 = .ok (.ifCond .eq 9, 3) := by decide +kernel
theorem d_Y_reachOf_19 : decode c_Y_reachOf 19 = .ok (.iinc 2 1, 3) := by decide +kernel
theorem d_Y_reachOf_22 : decode c_Y_reachOf 22 = .ok (.goto (-20), 3) := by decide +kernel
theorem d_Y_reachOf_25 : decode c_Y_reachOf 25 = .ok (.iload_n 2, 1) := by decide +kernel
theorem d_Y_reachOf_26 : decode c_Y_reachOf 26 = .ok (.ireturn, 1) := by decide +kernel
theorem d_Y_first_0 : decode c_Y_first 0 = .ok (.iconst 1, 1) := by decide +kernel
theorem d_Y_first_1 : decode c_Y_first 1 = .ok (.istore_n 2, 1) := by decide +kernel
theorem d_Y_first_2 : decode c_Y_first 2 = .ok (.iload_n 2, 1) := by decide +kernel
theorem d_Y_first_3 : decode c_Y_first 3 = .ok (.aload_n 0, 1) := by decide +kernel
theorem d_Y_first_4 : decode c_Y_first 4 = .ok (.getfield 80, 3) := by decide +kernel
theorem d_Y_first_7 : decode c_Y_first 7 = .ok (.if_icmp .gt 39, 3) := by decide +kernel
theorem d_Y_first_10 : decode c_Y_first 10 = .ok (.aload_n 0, 1) := by decide +kernel
theorem d_Y_first_11 : decode c_Y_first 11 = .ok (.getfield 41, 3) := by decide +kernel
theorem d_Y_first_14 : decode c_Y_first 14 = .ok (.iload_n 2, 1) := by decide +kernel
theorem d_Y_first_15 : decode c_Y_first 15 = .ok (.iaload, 1) := by decide +kernel
theorem d_Y_first_16 : decode c_Y_first 16 = .ok (.iload_n 1, 1) := by decide +kernel
theorem d_Y_first_17 : decode c_Y_first 17 = .ok (.if_icmp .ne 23, 3) := by decide +kernel
theorem d_Y_first_20 : decode c_Y_first 20 = .ok (.aload_n 0, 1) := by decide +kernel
theorem d_Y_first_21 : decode c_Y_first 21 = .ok (.getfield 53, 3) := by decide +kernel
theorem d_Y_first_24 : decode c_Y_first 24 = .ok (.iload_n 2, 1) := by decide +kernel
theorem d_Y_first_25 : decode c_Y_first 25 = .ok (.iaload, 1) := by decide +kernel
theorem d_Y_first_26 : decode c_Y_first 26 = .ok (.ifCond .ne 14, 3) := by decide +kernel
theorem d_Y_first_29 : decode c_Y_first 29 = .ok (.aload_n 0, 1) := by decide +kernel
theorem d_Y_first_30 : decode c_Y_first 30 = .ok (.getfield 47, 3) := by decide +kernel
theorem d_Y_first_33 : decode c_Y_first 33 = .ok (.iload_n 2, 1) := by decide +kernel
theorem d_Y_first_34 : decode c_Y_first 34 = .ok (.baload, 1) := by decide +kernel
theorem d_Y_first_35 : decode c_Y_first 35 = .ok (.ifCond .ne 5, 3) := by decide +kernel
theorem d_Y_first_38 : decode c_Y_first 38 = .ok (.iload_n 2, 1) := by decide +kernel
theorem d_Y_first_39 : decode c_Y_first 39 = .ok (.ireturn, 1) := by decide +kernel
theorem d_Y_first_40 : decode c_Y_first 40 = .ok (.iinc 2 1, 3) := by decide +kernel
theorem d_Y_first_43 : decode c_Y_first 43 = .ok (.goto (-41), 3) := by decide +kernel
theorem d_Y_first_46 : decode c_Y_first 46 = .ok (.iconst 0, 1) := by decide +kernel
theorem d_Y_first_47 : decode c_Y_first 47 = .ok (.ireturn, 1) := by decide +kernel
theorem d_Y_queued_0 : decode c_Y_queued 0 = .ok (.iconst 0, 1) := by decide +kernel
theorem d_Y_queued_1 : decode c_Y_queued 1 = .ok (.istore_n 2, 1) := by decide +kernel
theorem d_Y_queued_2 : decode c_Y_queued 2 = .ok (.iconst 1, 1) := by decide +kernel
theorem d_Y_queued_3 : decode c_Y_queued 3 = .ok (.istore_n 3, 1) := by decide +kernel
theorem d_Y_queued_4 : decode c_Y_queued 4 = .ok (.iload_n 3, 1) := by decide +kernel
theorem d_Y_queued_5 : decode c_Y_queued 5 = .ok (.aload_n 0, 1) := by decide +kernel
theorem d_Y_queued_6 : decode c_Y_queued 6 = .ok (.getfield 80, 3) := by decide +kernel
theorem d_Y_queued_9 : decode c_Y_queued 9 = .ok (.if_icmp .gt 45, 3) := by decide +kernel
theorem d_Y_queued_12 : decode c_Y_queued 12 = .ok (.iload_n 2, 1) := by decide +kernel
theorem d_Y_queued_13 : decode c_Y_queued 13 = .ok (.aload_n 0, 1) := by decide +kernel
theorem d_Y_queued_14 : decode c_Y_queued 14 = .ok (.getfield 41, 3) := by decide +kernel
theorem d_Y_queued_17 : decode c_Y_queued 17 = .ok (.iload_n 3, 1) := by decide +kernel
theorem d_Y_queued_18 : decode c_Y_queued 18 = .ok (.iaload, 1) := by decide +kernel
theorem d_Y_queued_19 : decode c_Y_queued 19 = .ok (.iload_n 1, 1) := by decide +kernel
theorem d_Y_queued_20 : decode c_Y_queued 20 = .ok (.if_icmp .ne 25, 3) := by decide +kernel
theorem d_Y_queued_23 : decode c_Y_queued 23 = .ok (.aload_n 0, 1) := by decide +kernel
theorem d_Y_queued_24 : decode c_Y_queued 24 = .ok (.getfield 53, 3) := by decide +kernel
theorem d_Y_queued_27 : decode c_Y_queued 27 = .ok (.iload_n 3, 1) := by decide +kernel
theorem d_Y_queued_28 : decode c_Y_queued 28 = .ok (.iaload, 1) := by decide +kernel
theorem d_Y_queued_29 : decode c_Y_queued 29 = .ok (.ifCond .ne 16, 3) := by decide +kernel
theorem d_Y_queued_32 : decode c_Y_queued 32 = .ok (.aload_n 0, 1) := by decide +kernel
theorem d_Y_queued_33 : decode c_Y_queued 33 = .ok (.getfield 47, 3) := by decide +kernel
theorem d_Y_queued_36 : decode c_Y_queued 36 = .ok (.iload_n 3, 1) := by decide +kernel
theorem d_Y_queued_37 : decode c_Y_queued 37 = .ok (.baload, 1) := by decide +kernel
theorem d_Y_queued_38 : decode c_Y_queued 38 = .ok (.ifCond .ne 7, 3) := by decide +kernel
theorem d_Y_queued_41 : decode c_Y_queued 41 = .ok (.iconst 1, 1) := by decide +kernel
theorem d_Y_queued_42 : decode c_Y_queued 42 = .ok (.goto 4, 3) := by decide +kernel
theorem d_Y_queued_45 : decode c_Y_queued 45 = .ok (.iconst 0, 1) := by decide +kernel
theorem d_Y_queued_46 : decode c_Y_queued 46 = .ok (.iadd, 1) := by decide +kernel
theorem d_Y_queued_47 : decode c_Y_queued 47 = .ok (.istore_n 2, 1) := by decide +kernel
theorem d_Y_queued_48 : decode c_Y_queued 48 = .ok (.iinc 3 1, 3) := by decide +kernel
theorem d_Y_queued_51 : decode c_Y_queued 51 = .ok (.goto (-47), 3) := by decide +kernel
theorem d_Y_queued_54 : decode c_Y_queued 54 = .ok (.iload_n 2, 1) := by decide +kernel
theorem d_Y_queued_55 : decode c_Y_queued 55 = .ok (.ireturn, 1) := by decide +kernel
theorem d_Y_send_0 : decode c_Y_send 0 = .ok (.aload_n 0, 1) := by decide +kernel
theorem d_Y_send_1 : decode c_Y_send 1 = .ok (.iload_n 1, 1) := by decide +kernel
theorem d_Y_send_2 : decode c_Y_send 2 = .ok (.invokevirtual 91, 3) := by decide +kernel
theorem d_Y_send_5 : decode c_Y_send 5 = .ok (.istore_n 3, 1) := by decide +kernel
theorem d_Y_send_6 : decode c_Y_send 6 = .ok (.iload_n 3, 1) := by decide +kernel
theorem d_Y_send_7 : decode c_Y_send 7 = .ok (.ifCond .eq 5, 3) := by decide +kernel
theorem d_Y_send_10 : decode c_Y_send 10 = .ok (.iload_n 3, 1) := by decide +kernel
theorem d_Y_send_11 : decode c_Y_send 11 = .ok (.ireturn, 1) := by decide +kernel
theorem d_Y_send_12 : decode c_Y_send 12 = .ok (.aload_n 0, 1) := by decide +kernel
theorem d_Y_send_13 : decode c_Y_send 13 = .ok (.getfield 80, 3) := by decide +kernel
theorem d_Y_send_16 : decode c_Y_send 16 = .ok (.bipush 48, 2) := by decide +kernel
theorem d_Y_send_18 : decode c_Y_send 18 = .ok (.if_icmp .eq 13, 3) := by decide +kernel
theorem d_Y_send_21 : decode c_Y_send 21 = .ok (.aload_n 0, 1) := by decide +kernel
theorem d_Y_send_22 : decode c_Y_send 22 = .ok (.iload_n 1, 1) := by decide +kernel
theorem d_Y_send_23 : decode c_Y_send 23 = .ok (.invokevirtual 95, 3) := by decide +kernel
theorem d_Y_send_26 : decode c_Y_send 26 = .ok (.bipush 8, 2) := by decide +kernel
theorem d_Y_send_28 : decode c_Y_send 28 = .ok (.if_icmp .ne 6, 3) := by decide +kernel
theorem d_Y_send_31 : decode c_Y_send 31 = .ok (.bipush (-4), 2) := by decide +kernel
theorem d_Y_send_33 : decode c_Y_send 33 = .ok (.ireturn, 1) := by decide +kernel
theorem d_Y_send_34 : decode c_Y_send 34 = .ok (.aload_n 0, 1) := by decide +kernel
theorem d_Y_send_35 : decode c_Y_send 35 = .ok (.dup, 1) := by decide +kernel
theorem d_Y_send_36 : decode c_Y_send 36 = .ok (.getfield 80, 3) := by decide +kernel
theorem d_Y_send_39 : decode c_Y_send 39 = .ok (.iconst 1, 1) := by decide +kernel
theorem d_Y_send_40 : decode c_Y_send 40 = .ok (.iadd, 1) := by decide +kernel
theorem d_Y_send_41 : decode c_Y_send 41 = .ok (.putfield 80, 3) := by decide +kernel
theorem d_Y_send_44 : decode c_Y_send 44 = .ok (.aload_n 0, 1) := by decide +kernel
theorem d_Y_send_45 : decode c_Y_send 45 = .ok (.getfield 41, 3) := by decide +kernel
theorem d_Y_send_48 : decode c_Y_send 48 = .ok (.aload_n 0, 1) := by decide +kernel
theorem d_Y_send_49 : decode c_Y_send 49 = .ok (.getfield 80, 3) := by decide +kernel
theorem d_Y_send_52 : decode c_Y_send 52 = .ok (.iload_n 1, 1) := by decide +kernel
theorem d_Y_send_53 : decode c_Y_send 53 = .ok (.iastore, 1) := by decide +kernel
theorem d_Y_send_54 : decode c_Y_send 54 = .ok (.aload_n 0, 1) := by decide +kernel
theorem d_Y_send_55 : decode c_Y_send 55 = .ok (.getfield 44, 3) := by decide +kernel
theorem d_Y_send_58 : decode c_Y_send 58 = .ok (.aload_n 0, 1) := by decide +kernel
theorem d_Y_send_59 : decode c_Y_send 59 = .ok (.getfield 80, 3) := by decide +kernel
theorem d_Y_send_62 : decode c_Y_send 62 = .ok (.iload_n 2, 1) := by decide +kernel
theorem d_Y_send_63 : decode c_Y_send 63 = .ok (.bastore, 1) := by decide +kernel
theorem d_Y_send_64 : decode c_Y_send 64 = .ok (.aload_n 0, 1) := by decide +kernel
theorem d_Y_send_65 : decode c_Y_send 65 = .ok (.getfield 80, 3) := by decide +kernel
theorem d_Y_send_68 : decode c_Y_send 68 = .ok (.ireturn, 1) := by decide +kernel
theorem d_Y_broadcast_0 : decode c_Y_broadcast 0 = .ok (.aload_n 0, 1) := by decide +kernel
theorem d_Y_broadcast_1 : decode c_Y_broadcast 1 = .ok (.getfield 32, 3) := by decide +kernel
theorem d_Y_broadcast_4 : decode c_Y_broadcast 4 = .ok (.bipush 49, 2) := by decide +kernel
theorem d_Y_broadcast_6 : decode c_Y_broadcast 6 = .ok (.iload_n 1, 1) := by decide +kernel
theorem d_Y_broadcast_7 : decode c_Y_broadcast 7 = .ok (.imul, 1) := by decide +kernel
theorem d_Y_broadcast_8 : decode c_Y_broadcast 8 = .ok (.iload_n 2, 1) := by decide +kernel
theorem d_Y_broadcast_9 : decode c_Y_broadcast 9 = .ok (.iadd, 1) := by decide +kernel
theorem d_Y_broadcast_10 : decode c_Y_broadcast 10 = .ok (.iconst 1, 1) := by decide +kernel
theorem d_Y_broadcast_11 : decode c_Y_broadcast 11 = .ok (.bastore, 1) := by decide +kernel
theorem d_Y_broadcast_12 : decode c_Y_broadcast 12 = .ok (.iconst 0, 1) := by decide +kernel
theorem d_Y_broadcast_13 : decode c_Y_broadcast 13 = .ok (.istore_n 3, 1) := by decide +kernel
theorem d_Y_broadcast_14 : decode c_Y_broadcast 14 = .ok (.iload_n 3, 1) := by decide +kernel
theorem d_Y_broadcast_15 : decode c_Y_broadcast 15 = .ok (.iconst 5, 1) := by decide +kernel
theorem d_Y_broadcast_16 : decode c_Y_broadcast 16 = .ok (.if_icmp .ge 57, 3) := by decide +kernel
theorem d_Y_broadcast_19 : decode c_Y_broadcast 19 = .ok (.iload_n 3, 1) := by decide +kernel
theorem d_Y_broadcast_20 : decode c_Y_broadcast 20 = .ok (.iload_n 1, 1) := by decide +kernel
theorem d_Y_broadcast_21 : decode c_Y_broadcast 21 = .ok (.if_icmp .eq 46, 3) := by decide +kernel
theorem d_Y_broadcast_24 : decode c_Y_broadcast 24 = .ok (.aload_n 0, 1) := by decide +kernel
theorem d_Y_broadcast_25 : decode c_Y_broadcast 25 = .ok (.iload_n 3, 1) := by decide +kernel
theorem d_Y_broadcast_26 : decode c_Y_broadcast 26 = .ok (.iload_n 1, 1) := by decide +kernel
theorem d_Y_broadcast_27 : decode c_Y_broadcast 27 = .ok (.invokevirtual 98, 3) := by decide +kernel
theorem d_Y_broadcast_30 : decode c_Y_broadcast 30 = .ok (.ifCond .eq 37, 3) := by decide +kernel
theorem d_Y_broadcast_33 : decode c_Y_broadcast 33 = .ok (.aload_n 0, 1) := by decide +kernel
theorem d_Y_broadcast_34 : decode c_Y_broadcast 34 = .ok (.getfield 26, 3) := by decide +kernel
theorem d_Y_broadcast_37 : decode c_Y_broadcast 37 = .ok (.iload_n 3, 1) := by decide +kernel
theorem d_Y_broadcast_38 : decode c_Y_broadcast 38 = .ok (.iaload, 1) := by decide +kernel
theorem d_Y_broadcast_39 : decode c_Y_broadcast 39 = .ok (.ifCond .le 16, 3) := by decide +kernel
theorem d_Y_broadcast_42 : decode c_Y_broadcast 42 = .ok (.aload_n 0, 1) := by decide +kernel
theorem d_Y_broadcast_43 : decode c_Y_broadcast 43 = .ok (.getfield 26, 3) := by decide +kernel
theorem d_Y_broadcast_46 : decode c_Y_broadcast 46 = .ok (.iload_n 3, 1) := by decide +kernel
theorem d_Y_broadcast_47 : decode c_Y_broadcast 47 = .ok (.dup2, 1) := by decide +kernel
theorem d_Y_broadcast_48 : decode c_Y_broadcast 48 = .ok (.iaload, 1) := by decide +kernel
theorem d_Y_broadcast_49 : decode c_Y_broadcast 49 = .ok (.iconst 1, 1) := by decide +kernel
theorem d_Y_broadcast_50 : decode c_Y_broadcast 50 = .ok (.isub, 1) := by decide +kernel
theorem d_Y_broadcast_51 : decode c_Y_broadcast 51 = .ok (.iastore, 1) := by decide +kernel
theorem d_Y_broadcast_52 : decode c_Y_broadcast 52 = .ok (.goto 15, 3) := by decide +kernel
theorem d_Y_broadcast_55 : decode c_Y_broadcast 55 = .ok (.aload_n 0, 1) := by decide +kernel
theorem d_Y_broadcast_56 : decode c_Y_broadcast 56 = .ok (.getfield 32, 3) := by decide +kernel
theorem d_Y_broadcast_59 : decode c_Y_broadcast 59 = .ok (.bipush 49, 2) := by decide +kernel
theorem d_Y_broadcast_61 : decode c_Y_broadcast 61 = .ok (.iload_n 3, 1) := by decide +kernel
theorem d_Y_broadcast_62 : decode c_Y_broadcast 62 = .ok (.imul, 1) := by decide +kernel
theorem d_Y_broadcast_63 : decode c_Y_broadcast 63 = .ok (.iload_n 2, 1) := by decide +kernel
theorem d_Y_broadcast_64 : decode c_Y_broadcast 64 = .ok (.iadd, 1) := by decide +kernel
theorem d_Y_broadcast_65 : decode c_Y_broadcast 65 = .ok (.iconst 1, 1) := by decide +kernel
theorem d_Y_broadcast_66 : decode c_Y_broadcast 66 = .ok (.bastore, 1) := by decide +kernel
theorem d_Y_broadcast_67 : decode c_Y_broadcast 67 = .ok (.iinc 3 1, 3) := by decide +kernel
theorem d_Y_broadcast_70 : decode c_Y_broadcast 70 = .ok (.goto (-56), 3) := by decide +kernel
theorem d_Y_broadcast_73 : decode c_Y_broadcast 73 = .ok (.return_, 1) := by decide +kernel
theorem d_Y_append_0 : decode c_Y_append 0 = .ok (.aload_n 0, 1) := by decide +kernel
theorem d_Y_append_1 : decode c_Y_append 1 = .ok (.getfield 35, 3) := by decide +kernel
theorem d_Y_append_4 : decode c_Y_append 4 = .ok (.bipush 48, 2) := by decide +kernel
theorem d_Y_append_6 : decode c_Y_append 6 = .ok (.iload_n 1, 1) := by decide +kernel
theorem d_Y_append_7 : decode c_Y_append 7 = .ok (.imul, 1) := by decide +kernel
theorem d_Y_append_8 : decode c_Y_append 8 = .ok (.aload_n 0, 1) := by decide +kernel
theorem d_Y_append_9 : decode c_Y_append 9 = .ok (.getfield 38, 3) := by decide +kernel
theorem d_Y_append_12 : decode c_Y_append 12 = .ok (.iload_n 1, 1) := by decide +kernel
theorem d_Y_append_13 : decode c_Y_append 13 = .ok (.iaload, 1) := by decide +kernel
theorem d_Y_append_14 : decode c_Y_append 14 = .ok (.iadd, 1) := by decide +kernel
theorem d_Y_append_15 : decode c_Y_append 15 = .ok (.iload_n 2, 1) := by decide +kernel
theorem d_Y_append_16 : decode c_Y_append 16 = .ok (.iastore, 1) := by decide +kernel
theorem d_Y_append_17 : decode c_Y_append 17 = .ok (.aload_n 0, 1) := by decide +kernel
theorem d_Y_append_18 : decode c_Y_append 18 = .ok (.getfield 38, 3) := by decide +kernel
theorem d_Y_append_21 : decode c_Y_append 21 = .ok (.iload_n 1, 1) := by decide +kernel
theorem d_Y_append_22 : decode c_Y_append 22 = .ok (.dup2, 1) := by decide +kernel
theorem d_Y_append_23 : decode c_Y_append 23 = .ok (.iaload, 1) := by decide +kernel
theorem d_Y_append_24 : decode c_Y_append 24 = .ok (.iconst 1, 1) := by decide +kernel
theorem d_Y_append_25 : decode c_Y_append 25 = .ok (.iadd, 1) := by decide +kernel
theorem d_Y_append_26 : decode c_Y_append 26 = .ok (.iastore, 1) := by decide +kernel
theorem d_Y_append_27 : decode c_Y_append 27 = .ok (.return_, 1) := by decide +kernel
theorem d_Y_deliver_0 : decode c_Y_deliver 0 = .ok (.iconst 1, 1) := by decide +kernel
theorem d_Y_deliver_1 : decode c_Y_deliver 1 = .ok (.istore_n 2, 1) := by decide +kernel
theorem d_Y_deliver_2 : decode c_Y_deliver 2 = .ok (.iconst 0, 1) := by decide +kernel
theorem d_Y_deliver_3 : decode c_Y_deliver 3 = .ok (.istore_n 3, 1) := by decide +kernel
theorem d_Y_deliver_4 : decode c_Y_deliver 4 = .ok (.iload_n 3, 1) := by decide +kernel
theorem d_Y_deliver_5 : decode c_Y_deliver 5 = .ok (.bipush 48, 2) := by decide +kernel
theorem d_Y_deliver_7 : decode c_Y_deliver 7 = .ok (.if_icmp .ge 105, 3) := by decide +kernel
theorem d_Y_deliver_10 : decode c_Y_deliver 10 = .ok (.iload_n 2, 1) := by decide +kernel
theorem d_Y_deliver_11 : decode c_Y_deliver 11 = .ok (.ifCond .eq 101, 3) := by decide +kernel
theorem d_Y_deliver_14 : decode c_Y_deliver 14 = .ok (.aload_n 0, 1) := by decide +kernel
theorem d_Y_deliver_15 : decode c_Y_deliver 15 = .ok (.getfield 23, 3) := by decide +kernel
theorem d_Y_deliver_18 : decode c_Y_deliver 18 = .ok (.iload_n 1, 1) := by decide +kernel
theorem d_Y_deliver_19 : decode c_Y_deliver 19 = .ok (.iaload, 1) := by decide +kernel
theorem d_Y_deliver_20 : decode c_Y_deliver 20 = .ok (.iconst 1, 1) := by decide +kernel
theorem d_Y_deliver_21 : decode c_Y_deliver 21 = .ok (.iadd, 1) := by decide +kernel
theorem d_Y_deliver_22 : decode c_Y_deliver 22 = .ok (.istore 4, 2) := by decide +kernel
theorem d_Y_deliver_24 : decode c_Y_deliver 24 = .ok (.aload_n 0, 1) := by decide +kernel
theorem d_Y_deliver_25 : decode c_Y_deliver 25 = .ok (.aload_n 0, 1) := by decide +kernel
theorem d_Y_deliver_26 : decode c_Y_deliver 26 = .ok (.getfield 17, 3) := by decide +kernel
theorem d_Y_deliver_29 : decode c_Y_deliver 29 = .ok (.iload_n 1, 1) := by decide +kernel
theorem d_Y_deliver_30 : decode c_Y_deliver 30 = .ok (.iaload, 1) := by decide +kernel
theorem d_Y_deliver_31 : decode c_Y_deliver 31 = .ok (.iload 4, 2) := by decide +kernel
theorem d_Y_deliver_33 : decode c_Y_deliver 33 = .ok (.invokevirtual 83, 3) := by decide +kernel
theorem d_Y_deliver_36 : decode c_Y_deliver 36 = .ok (.istore 5, 2) := by decide +kernel
theorem d_Y_deliver_38 : decode c_Y_deliver 38 = .ok (.iload 5, 2) := by decide +kernel
theorem d_Y_deliver_40 : decode c_Y_deliver 40 = .ok (.ifCond .le 43, 3) := by decide +kernel
theorem d_Y_deliver_43 : decode c_Y_deliver 43 = .ok (.aload_n 0, 1) := by decide +kernel
theorem d_Y_deliver_44 : decode c_Y_deliver 44 = .ok (.getfield 32, 3) := by decide +kernel
theorem d_Y_deliver_47 : decode c_Y_deliver 47 = .ok (.bipush 49, 2) := by decide +kernel
theorem d_Y_deliver_49 : decode c_Y_deliver 49 = .ok (.iload_n 1, 1) := by decide +kernel
theorem d_Y_deliver_50 : decode c_Y_deliver 50 = .ok (.imul, 1) := by decide +kernel
theorem d_Y_deliver_51 : decode c_Y_deliver 51 = .ok (.iload 5, 2) := by decide +kernel
theorem d_Y_deliver_53 : decode c_Y_deliver 53 = .ok (.iadd, 1) := by decide +kernel
theorem d_Y_deliver_54 : decode c_Y_deliver 54 = .ok (.baload, 1) := by decide +kernel
theorem d_Y_deliver_55 : decode c_Y_deliver 55 = .ok (.ifCond .eq 28, 3) := by decide +kernel
theorem d_Y_deliver_58 : decode c_Y_deliver 58 = .ok (.aload_n 0, 1) := by decide +kernel
theorem d_Y_deliver_59 : decode c_Y_deliver 59 = .ok (.getfield 44, 3) := by decide +kernel
theorem d_Y_deliver_62 : decode c_Y_deliver 62 = .ok (.iload 5, 2) := by decide +kernel
theorem d_Y_deliver_64 : decode c_Y_deliver 64 = .ok (.baload, 1) := by decide +kernel
theorem d_Y_deliver_65 : decode c_Y_deliver 65 = .ok (.ifCond .eq 14, 3) := by decide +kernel
theorem d_Y_deliver_68 : decode c_Y_deliver 68 = .ok (.iload 4, 2) := by decide +kernel
theorem d_Y_deliver_70 : decode c_Y_deliver 70 = .ok (.aload_n 0, 1) := by decide +kernel
theorem d_Y_deliver_71 : decode c_Y_deliver 71 = .ok (.getfield 20, 3) := by decide +kernel
theorem d_Y_deliver_74 : decode c_Y_deliver 74 = .ok (.iload_n 1, 1) := by decide +kernel
theorem d_Y_deliver_75 : decode c_Y_deliver 75 = .ok (.iaload, 1) := by decide +kernel
theorem d_Y_deliver_76 : decode c_Y_deliver 76 = .ok (.if_icmp .gt 7, 3) := by decide +kernel
theorem d_Y_deliver_79 : decode c_Y_deliver 79 = .ok (.iconst 1, 1) := by decide +kernel
theorem d_Y_deliver_80 : decode c_Y_deliver 80 = .ok (.goto 4, 3) := by decide +kernel
theorem d_Y_deliver_83 : decode c_Y_deliver 83 = .ok (.iconst 0, 1) := by decide +kernel
theorem d_Y_deliver_84 : decode c_Y_deliver 84 = .ok (.istore_n 2, 1) := by decide +kernel
theorem d_Y_deliver_85 : decode c_Y_deliver 85 = .ok (.iload_n 2, 1) := by decide +kernel
theorem d_Y_deliver_86 : decode c_Y_deliver 86 = .ok (.ifCond .eq 20, 3) := by decide +kernel
theorem d_Y_deliver_89 : decode c_Y_deliver 89 = .ok (.aload_n 0, 1) := by decide +kernel
theorem d_Y_deliver_90 : decode c_Y_deliver 90 = .ok (.iload_n 1, 1) := by decide +kernel
theorem d_Y_deliver_91 : decode c_Y_deliver 91 = .ok (.iconst 2, 1) := by decide +kernel
theorem d_Y_deliver_92 : decode c_Y_deliver 92 = .ok (.iload 5, 2) := by decide +kernel
theorem d_Y_deliver_94 : decode c_Y_deliver 94 = .ok (.imul, 1) := by decide +kernel
theorem d_Y_deliver_95 : decode c_Y_deliver 95 = .ok (.invokevirtual 101, 3) := by decide +kernel
theorem d_Y_deliver_98 : decode c_Y_deliver 98 = .ok (.aload_n 0, 1) := by decide +kernel
theorem d_Y_deliver_99 : decode c_Y_deliver 99 = .ok (.getfield 23, 3) := by decide +kernel
theorem d_Y_deliver_102 : decode c_Y_deliver 102 = .ok (.iload_n 1, 1) := by decide +kernel
theorem d_Y_deliver_103 : decode c_Y_deliver 103 = .ok (.iload 4, 2) := by decide +kernel
theorem d_Y_deliver_105 : decode c_Y_deliver 105 = .ok (.iastore, 1) := by decide +kernel
theorem d_Y_deliver_106 : decode c_Y_deliver 106 = .ok (.iinc 3 1, 3) := by decide +kernel
theorem d_Y_deliver_109 : decode c_Y_deliver 109 = .ok (.goto (-105), 3) := by decide +kernel
theorem d_Y_deliver_112 : decode c_Y_deliver 112 = .ok (.return_, 1) := by decide +kernel
theorem d_Y_sendAgain_0 : decode c_Y_sendAgain 0 = .ok (.iconst 0, 1) := by decide +kernel
theorem d_Y_sendAgain_1 : decode c_Y_sendAgain 1 = .ok (.istore_n 3, 1) := by decide +kernel
theorem d_Y_sendAgain_2 : decode c_Y_sendAgain 2 = .ok (.iconst 1, 1) := by decide +kernel
theorem d_Y_sendAgain_3 : decode c_Y_sendAgain 3 = .ok (.istore 4, 2) := by decide +kernel
theorem d_Y_sendAgain_5 : decode c_Y_sendAgain 5 = .ok (.iload 4, 2) := by decide +kernel
theorem d_Y_sendAgain_7 : decode c_Y_sendAgain 7 = .ok (.bipush 48, 2) := by decide +kernel
theorem d_Y_sendAgain_9 : decode c_Y_sendAgain 9 = .ok (.if_icmp .gt 87, 3) := by decide +kernel
theorem d_Y_sendAgain_12 : decode c_Y_sendAgain 12 = .ok (.aload_n 0, 1) := by decide +kernel
theorem d_Y_sendAgain_13 : decode c_Y_sendAgain 13 = .ok (.getfield 68, 3) := by decide +kernel
theorem d_Y_sendAgain_16 : decode c_Y_sendAgain 16 = .ok (.iload_n 2, 1) := by decide +kernel
theorem d_Y_sendAgain_17 : decode c_Y_sendAgain 17 = .ok (.laload, 1) := by decide +kernel
theorem d_Y_sendAgain_18 : decode c_Y_sendAgain 18 = .ok (.iload 4, 2) := by decide +kernel
theorem d_Y_sendAgain_20 : decode c_Y_sendAgain 20 = .ok (.lshr, 1) := by decide +kernel
theorem d_Y_sendAgain_21 : decode c_Y_sendAgain 21 = .ok (.lconst 1, 1) := by decide +kernel
theorem d_Y_sendAgain_22 : decode c_Y_sendAgain 22 = .ok (.land, 1) := by decide +kernel
theorem d_Y_sendAgain_23 : decode c_Y_sendAgain 23 = .ok (.lconst 1, 1) := by decide +kernel
theorem d_Y_sendAgain_24 : decode c_Y_sendAgain 24 = .ok (.lcmp, 1) := by decide +kernel
theorem d_Y_sendAgain_25 : decode c_Y_sendAgain 25 = .ok (.ifCond .ne 7, 3) := by decide +kernel
theorem d_Y_sendAgain_28 : decode c_Y_sendAgain 28 = .ok (.iconst 1, 1) := by decide +kernel
theorem d_Y_sendAgain_29 : decode c_Y_sendAgain 29 = .ok (.goto 4, 3) := by decide +kernel
theorem d_Y_sendAgain_32 : decode c_Y_sendAgain 32 = .ok (.iconst 0, 1) := by decide +kernel
theorem d_Y_sendAgain_33 : decode c_Y_sendAgain 33 = .ok (.istore 5, 2) := by decide +kernel
theorem d_Y_sendAgain_35 : decode c_Y_sendAgain 35 = .ok (.iload 5, 2) := by decide +kernel
theorem d_Y_sendAgain_37 : decode c_Y_sendAgain 37 = .ok (.ifCond .eq 53, 3) := by decide +kernel
theorem d_Y_sendAgain_40 : decode c_Y_sendAgain 40 = .ok (.aload_n 0, 1) := by decide +kernel
theorem d_Y_sendAgain_41 : decode c_Y_sendAgain 41 = .ok (.iload_n 1, 1) := by decide +kernel
theorem d_Y_sendAgain_42 : decode c_Y_sendAgain 42 = .ok (.iload 4, 2) := by decide +kernel
theorem d_Y_sendAgain_44 : decode c_Y_sendAgain 44 = .ok (.invokevirtual 87, 3) := by decide +kernel
theorem d_Y_sendAgain_47 : decode c_Y_sendAgain 47 = .ok (.ifCond .eq 43, 3) := by decide +kernel
theorem d_Y_sendAgain_50 : decode c_Y_sendAgain 50 = .ok (.aload_n 0, 1) := by decide +kernel
theorem d_Y_sendAgain_51 : decode c_Y_sendAgain 51 = .ok (.getfield 68, 3) := by decide +kernel
theorem d_Y_sendAgain_54 : decode c_Y_sendAgain 54 = .ok (.iload_n 2, 1) := by decide +kernel
theorem d_Y_sendAgain_55 : decode c_Y_sendAgain 55 = .ok (.aload_n 0, 1) := by decide +kernel
theorem d_Y_sendAgain_56 : decode c_Y_sendAgain 56 = .ok (.getfield 68, 3) := by decide +kernel
theorem d_Y_sendAgain_59 : decode c_Y_sendAgain 59 = .ok (.iload_n 2, 1) := by decide +kernel
theorem d_Y_sendAgain_60 : decode c_Y_sendAgain 60 = .ok (.laload, 1) := by decide +kernel
theorem d_Y_sendAgain_61 : decode c_Y_sendAgain 61 = .ok (.lconst 1, 1) := by decide +kernel
theorem d_Y_sendAgain_62 : decode c_Y_sendAgain 62 = .ok (.iload 4, 2) := by decide +kernel
theorem d_Y_sendAgain_64 : decode c_Y_sendAgain 64 = .ok (.lshl, 1) := by decide +kernel
theorem d_Y_sendAgain_65 : decode c_Y_sendAgain 65 = .ok (.ldc2_w 105, 3) := by decide +kernel
theorem d_Y_sendAgain_68 : decode c_Y_sendAgain 68 = .ok (.lxor, 1) := by decide +kernel
theorem d_Y_sendAgain_69 : decode c_Y_sendAgain 69 = .ok (.land, 1) := by decide +kernel
theorem d_Y_sendAgain_70 : decode c_Y_sendAgain 70 = .ok (.lastore, 1) := by decide +kernel
theorem d_Y_sendAgain_71 : decode c_Y_sendAgain 71 = .ok (.aload_n 0, 1) := by decide +kernel
theorem d_Y_sendAgain_72 : decode c_Y_sendAgain 72 = .ok (.iload_n 2, 1) := by decide +kernel
theorem d_Y_sendAgain_73 : decode c_Y_sendAgain 73 = .ok (.iload 4, 2) := by decide +kernel
theorem d_Y_sendAgain_75 : decode c_Y_sendAgain 75 = .ok (.invokevirtual 83, 3) := by decide +kernel
theorem d_Y_sendAgain_78 : decode c_Y_sendAgain 78 = .ok (.istore 6, 2) := by decide +kernel
theorem d_Y_sendAgain_80 : decode c_Y_sendAgain 80 = .ok (.aload_n 0, 1) := by decide +kernel
theorem d_Y_sendAgain_81 : decode c_Y_sendAgain 81 = .ok (.iload_n 1, 1) := by decide +kernel
theorem d_Y_sendAgain_82 : decode c_Y_sendAgain 82 = .ok (.iload 6, 2) := by decide +kernel
theorem d_Y_sendAgain_84 : decode c_Y_sendAgain 84 = .ok (.invokevirtual 107, 3) := by decide +kernel
theorem d_Y_sendAgain_87 : decode c_Y_sendAgain 87 = .ok (.iinc 3 1, 3) := by decide +kernel
theorem d_Y_sendAgain_90 : decode c_Y_sendAgain 90 = .ok (.iinc 4 1, 3) := by decide +kernel
theorem d_Y_sendAgain_93 : decode c_Y_sendAgain 93 = .ok (.goto (-88), 3) := by decide +kernel
theorem d_Y_sendAgain_96 : decode c_Y_sendAgain 96 = .ok (.iload_n 3, 1) := by decide +kernel
theorem d_Y_sendAgain_97 : decode c_Y_sendAgain 97 = .ok (.ireturn, 1) := by decide +kernel
theorem d_Y_sendNew_0 : decode c_Y_sendNew 0 = .ok (.iconst 0, 1) := by decide +kernel
theorem d_Y_sendNew_1 : decode c_Y_sendNew 1 = .ok (.istore_n 3, 1) := by decide +kernel
theorem d_Y_sendNew_2 : decode c_Y_sendNew 2 = .ok (.iconst 0, 1) := by decide +kernel
theorem d_Y_sendNew_3 : decode c_Y_sendNew 3 = .ok (.istore 4, 2) := by decide +kernel
theorem d_Y_sendNew_5 : decode c_Y_sendNew 5 = .ok (.iload 4, 2) := by decide +kernel
theorem d_Y_sendNew_7 : decode c_Y_sendNew 7 = .ok (.iconst 2, 1) := by decide +kernel
theorem d_Y_sendNew_8 : decode c_Y_sendNew 8 = .ok (.if_icmp .ge 62, 3) := by decide +kernel
theorem d_Y_sendNew_11 : decode c_Y_sendNew 11 = .ok (.aload_n 0, 1) := by decide +kernel
theorem d_Y_sendNew_12 : decode c_Y_sendNew 12 = .ok (.iload_n 1, 1) := by decide +kernel
theorem d_Y_sendNew_13 : decode c_Y_sendNew 13 = .ok (.invokevirtual 110, 3) := by decide +kernel
theorem d_Y_sendNew_16 : decode c_Y_sendNew 16 = .ok (.istore 5, 2) := by decide +kernel
theorem d_Y_sendNew_18 : decode c_Y_sendNew 18 = .ok (.iload 5, 2) := by decide +kernel
theorem d_Y_sendNew_20 : decode c_Y_sendNew 20 = .ok (.ifCond .le 44, 3) := by decide +kernel
theorem d_Y_sendNew_23 : decode c_Y_sendNew 23 = .ok (.aload_n 0, 1) := by decide +kernel
theorem d_Y_sendNew_24 : decode c_Y_sendNew 24 = .ok (.getfield 59, 3) := by decide +kernel
theorem d_Y_sendNew_27 : decode c_Y_sendNew 27 = .ok (.iload_n 2, 1) := by decide +kernel
theorem d_Y_sendNew_28 : decode c_Y_sendNew 28 = .ok (.dup2, 1) := by decide +kernel
theorem d_Y_sendNew_29 : decode c_Y_sendNew 29 = .ok (.iaload, 1) := by decide +kernel
theorem d_Y_sendNew_30 : decode c_Y_sendNew 30 = .ok (.iconst 1, 1) := by decide +kernel
theorem d_Y_sendNew_31 : decode c_Y_sendNew 31 = .ok (.iadd, 1) := by decide +kernel
theorem d_Y_sendNew_32 : decode c_Y_sendNew 32 = .ok (.iastore, 1) := by decide +kernel
theorem d_Y_sendNew_33 : decode c_Y_sendNew 33 = .ok (.aload_n 0, 1) := by decide +kernel
theorem d_Y_sendNew_34 : decode c_Y_sendNew 34 = .ok (.getfield 53, 3) := by decide +kernel
theorem d_Y_sendNew_37 : decode c_Y_sendNew 37 = .ok (.iload 5, 2) := by decide +kernel
theorem d_Y_sendNew_39 : decode c_Y_sendNew 39 = .ok (.aload_n 0, 1) := by decide +kernel
theorem d_Y_sendNew_40 : decode c_Y_sendNew 40 = .ok (.getfield 59, 3) := by decide +kernel
theorem d_Y_sendNew_43 : decode c_Y_sendNew 43 = .ok (.iload_n 2, 1) := by decide +kernel
theorem d_Y_sendNew_44 : decode c_Y_sendNew 44 = .ok (.iaload, 1) := by decide +kernel
theorem d_Y_sendNew_45 : decode c_Y_sendNew 45 = .ok (.iastore, 1) := by decide +kernel
theorem d_Y_sendNew_46 : decode c_Y_sendNew 46 = .ok (.aload_n 0, 1) := by decide +kernel
theorem d_Y_sendNew_47 : decode c_Y_sendNew 47 = .ok (.getfield 50, 3) := by decide +kernel
theorem d_Y_sendNew_50 : decode c_Y_sendNew 50 = .ok (.iload 5, 2) := by decide +kernel
theorem d_Y_sendNew_52 : decode c_Y_sendNew 52 = .ok (.iload_n 2, 1) := by decide +kernel
theorem d_Y_sendNew_53 : decode c_Y_sendNew 53 = .ok (.iastore, 1) := by decide +kernel
theorem d_Y_sendNew_54 : decode c_Y_sendNew 54 = .ok (.aload_n 0, 1) := by decide +kernel
theorem d_Y_sendNew_55 : decode c_Y_sendNew 55 = .ok (.iload_n 1, 1) := by decide +kernel
theorem d_Y_sendNew_56 : decode c_Y_sendNew 56 = .ok (.iload 5, 2) := by decide +kernel
theorem d_Y_sendNew_58 : decode c_Y_sendNew 58 = .ok (.invokevirtual 107, 3) := by decide +kernel
theorem d_Y_sendNew_61 : decode c_Y_sendNew 61 = .ok (.iinc 3 1, 3) := by decide +kernel
theorem d_Y_sendNew_64 : decode c_Y_sendNew 64 = .ok (.iinc 4 1, 3) := by decide +kernel
theorem d_Y_sendNew_67 : decode c_Y_sendNew 67 = .ok (.goto (-62), 3) := by decide +kernel
theorem d_Y_sendNew_70 : decode c_Y_sendNew 70 = .ok (.iload_n 3, 1) := by decide +kernel
theorem d_Y_sendNew_71 : decode c_Y_sendNew 71 = .ok (.ireturn, 1) := by decide +kernel
theorem d_Y_stranger_0 : decode c_Y_stranger 0 = .ok (.iconst 0, 1) := by decide +kernel
theorem d_Y_stranger_1 : decode c_Y_stranger 1 = .ok (.istore_n 2, 1) := by decide +kernel
theorem d_Y_stranger_2 : decode c_Y_stranger 2 = .ok (.iconst 0, 1) := by decide +kernel
theorem d_Y_stranger_3 : decode c_Y_stranger 3 = .ok (.istore_n 3, 1) := by decide +kernel
theorem d_Y_stranger_4 : decode c_Y_stranger 4 = .ok (.iload_n 3, 1) := by decide +kernel
theorem d_Y_stranger_5 : decode c_Y_stranger 5 = .ok (.iconst 5, 1) := by decide +kernel
theorem d_Y_stranger_6 : decode c_Y_stranger 6 = .ok (.if_icmp .ge 58, 3) := by decide +kernel
theorem d_Y_stranger_9 : decode c_Y_stranger 9 = .ok (.iload_n 2, 1) := by decide +kernel
theorem d_Y_stranger_10 : decode c_Y_stranger 10 = .ok (.ifCond .ne 42, 3) := by decide +kernel
theorem d_Y_stranger_13 : decode c_Y_stranger 13 = .ok (.aload_n 0, 1) := by decide +kernel
theorem d_Y_stranger_14 : decode c_Y_stranger 14 = .ok (.getfield 7, 3) := by decide +kernel
theorem d_Y_stranger_17 : decode c_Y_stranger 17 = .ok (.iload_n 3, 1) := by decide +kernel
theorem d_Y_stranger_18 : decode c_Y_stranger 18 = .ok (.baload, 1) := by decide +kernel
theorem d_Y_stranger_19 : decode c_Y_stranger 19 = .ok (.ifCond .eq 37, 3) := by decide +kernel
theorem d_Y_stranger_22 : decode c_Y_stranger 22 = .ok (.aload_n 0, 1) := by decide +kernel
theorem d_Y_stranger_23 : decode c_Y_stranger 23 = .ok (.getfield 13, 3) := by decide +kernel
theorem d_Y_stranger_26 : decode c_Y_stranger 26 = .ok (.iload_n 3, 1) := by decide +kernel
theorem d_Y_stranger_27 : decode c_Y_stranger 27 = .ok (.iaload, 1) := by decide +kernel
theorem d_Y_stranger_28 : decode c_Y_stranger 28 = .ok (.aload_n 0, 1) := by decide +kernel
theorem d_Y_stranger_29 : decode c_Y_stranger 29 = .ok (.getfield 13, 3) := by decide +kernel
theorem d_Y_stranger_32 : decode c_Y_stranger 32 = .ok (.iload_n 1, 1) := by decide +kernel
theorem d_Y_stranger_33 : decode c_Y_stranger 33 = .ok (.iaload, 1) := by decide +kernel
theorem d_Y_stranger_34 : decode c_Y_stranger 34 = .ok (.if_icmp .ne 22, 3) := by decide +kernel
theorem d_Y_stranger_37 : decode c_Y_stranger 37 = .ok (.aload_n 0, 1) := by decide +kernel
theorem d_Y_stranger_38 : decode c_Y_stranger 38 = .ok (.getfield 17, 3) := by decide +kernel
theorem d_Y_stranger_41 : decode c_Y_stranger 41 = .ok (.iload_n 3, 1) := by decide +kernel
theorem d_Y_stranger_42 : decode c_Y_stranger 42 = .ok (.iaload, 1) := by decide +kernel
theorem d_Y_stranger_43 : decode c_Y_stranger 43 = .ok (.aload_n 0, 1) := by decide +kernel
theorem d_Y_stranger_44 : decode c_Y_stranger 44 = .ok (.getfield 17, 3) := by decide +kernel
theorem d_Y_stranger_47 : decode c_Y_stranger 47 = .ok (.iload_n 1, 1) := by decide +kernel
theorem d_Y_stranger_48 : decode c_Y_stranger 48 = .ok (.iaload, 1) := by decide +kernel
theorem d_Y_stranger_49 : decode c_Y_stranger 49 = .ok (.if_icmp .eq 7, 3) := by decide +kernel
theorem d_Y_stranger_52 : decode c_Y_stranger 52 = .ok (.iconst 1, 1) := by decide +kernel
theorem d_Y_stranger_53 : decode c_Y_stranger 53 = .ok (.goto 4, 3) := by decide +kernel
theorem d_Y_stranger_56 : decode c_Y_stranger 56 = .ok (.iconst 0, 1) := by decide +kernel
theorem d_Y_stranger_57 : decode c_Y_stranger 57 = .ok (.istore_n 2, 1) := by decide +kernel
theorem d_Y_stranger_58 : decode c_Y_stranger 58 = .ok (.iinc 3 1, 3) := by decide +kernel
theorem d_Y_stranger_61 : decode c_Y_stranger 61 = .ok (.goto (-57), 3) := by decide +kernel
theorem d_Y_stranger_64 : decode c_Y_stranger 64 = .ok (.iload_n 2, 1) := by decide +kernel
theorem d_Y_stranger_65 : decode c_Y_stranger 65 = .ok (.ireturn, 1) := by decide +kernel
theorem d_Y_passOn_0 : decode c_Y_passOn 0 = .ok (.iload_n 1, 1) := by decide +kernel
theorem d_Y_passOn_1 : decode c_Y_passOn 1 = .ok (.istore_n 3, 1) := by decide +kernel
theorem d_Y_passOn_2 : decode c_Y_passOn 2 = .ok (.iconst 4, 1) := by decide +kernel
theorem d_Y_passOn_3 : decode c_Y_passOn 3 = .ok (.istore 4, 2) := by decide +kernel
theorem d_Y_passOn_5 : decode c_Y_passOn 5 = .ok (.iload 4, 2) := by decide +kernel
theorem d_Y_passOn_7 : decode c_Y_passOn 7 = .ok (.iconst 1, 1) := by decide +kernel
theorem d_Y_passOn_8 : decode c_Y_passOn 8 = .ok (.if_icmp .lt 39, 3) := by decide +kernel
theorem d_Y_passOn_11 : decode c_Y_passOn 11 = .ok (.iload_n 1, 1) := by decide +kernel
theorem d_Y_passOn_12 : decode c_Y_passOn 12 = .ok (.iload 4, 2) := by decide +kernel
theorem d_Y_passOn_14 : decode c_Y_passOn 14 = .ok (.iadd, 1) := by decide +kernel
theorem d_Y_passOn_15 : decode c_Y_passOn 15 = .ok (.iconst 5, 1) := by decide +kernel
theorem d_Y_passOn_16 : decode c_Y_passOn 16 = .ok (.irem, 1) := by decide +kernel
theorem d_Y_passOn_17 : decode c_Y_passOn 17 = .ok (.istore 5, 2) := by decide +kernel
theorem d_Y_passOn_19 : decode c_Y_passOn 19 = .ok (.aload_n 0, 1) := by decide +kernel
theorem d_Y_passOn_20 : decode c_Y_passOn 20 = .ok (.getfield 62, 3) := by decide +kernel
theorem d_Y_passOn_23 : decode c_Y_passOn 23 = .ok (.iload_n 2, 1) := by decide +kernel
theorem d_Y_passOn_24 : decode c_Y_passOn 24 = .ok (.iaload, 1) := by decide +kernel
theorem d_Y_passOn_25 : decode c_Y_passOn 25 = .ok (.iload 5, 2) := by decide +kernel
theorem d_Y_passOn_27 : decode c_Y_passOn 27 = .ok (.ishr, 1) := by decide +kernel
theorem d_Y_passOn_28 : decode c_Y_passOn 28 = .ok (.iconst 1, 1) := by decide +kernel
theorem d_Y_passOn_29 : decode c_Y_passOn 29 = .ok (.iand, 1) := by decide +kernel
theorem d_Y_passOn_30 : decode c_Y_passOn 30 = .ok (.iconst 1, 1) := by decide +kernel
theorem d_Y_passOn_31 : decode c_Y_passOn 31 = .ok (.if_icmp .ne 8, 3) := by decide +kernel
theorem d_Y_passOn_34 : decode c_Y_passOn 34 = .ok (.iload 5, 2) := by decide +kernel
theorem d_Y_passOn_36 : decode c_Y_passOn 36 = .ok (.goto 4, 3) := by decide +kernel
theorem d_Y_passOn_39 : decode c_Y_passOn 39 = .ok (.iload_n 3, 1) := by decide +kernel
theorem d_Y_passOn_40 : decode c_Y_passOn 40 = .ok (.istore_n 3, 1) := by decide +kernel
theorem d_Y_passOn_41 : decode c_Y_passOn 41 = .ok (.iinc 4 (-1), 3) := by decide +kernel
theorem d_Y_passOn_44 : decode c_Y_passOn 44 = .ok (.goto (-39), 3) := by decide +kernel
theorem d_Y_passOn_47 : decode c_Y_passOn 47 = .ok (.aload_n 0, 1) := by decide +kernel
theorem d_Y_passOn_48 : decode c_Y_passOn 48 = .ok (.getfield 56, 3) := by decide +kernel
theorem d_Y_passOn_51 : decode c_Y_passOn 51 = .ok (.iload_n 2, 1) := by decide +kernel
theorem d_Y_passOn_52 : decode c_Y_passOn 52 = .ok (.iload_n 3, 1) := by decide +kernel
theorem d_Y_passOn_53 : decode c_Y_passOn 53 = .ok (.iload_n 1, 1) := by decide +kernel
theorem d_Y_passOn_54 : decode c_Y_passOn 54 = .ok (.if_icmp .eq 12, 3) := by decide +kernel
theorem d_Y_passOn_57 : decode c_Y_passOn 57 = .ok (.aload_n 0, 1) := by decide +kernel
theorem d_Y_passOn_58 : decode c_Y_passOn 58 = .ok (.iload_n 3, 1) := by decide +kernel
theorem d_Y_passOn_59 : decode c_Y_passOn 59 = .ok (.iload_n 1, 1) := by decide +kernel
theorem d_Y_passOn_60 : decode c_Y_passOn 60 = .ok (.invokevirtual 98, 3) := by decide +kernel
theorem d_Y_passOn_63 : decode c_Y_passOn 63 = .ok (.ifCond .eq 7, 3) := by decide +kernel
theorem d_Y_passOn_66 : decode c_Y_passOn 66 = .ok (.iload_n 3, 1) := by decide +kernel
theorem d_Y_passOn_67 : decode c_Y_passOn 67 = .ok (.goto 4, 3) := by decide +kernel
theorem d_Y_passOn_70 : decode c_Y_passOn 70 = .ok (.iconst (-1), 1) := by decide +kernel
theorem d_Y_passOn_71 : decode c_Y_passOn 71 = .ok (.iastore, 1) := by decide +kernel
theorem d_Y_passOn_72 : decode c_Y_passOn 72 = .ok (.return_, 1) := by decide +kernel
theorem d_Y_visit_0 : decode c_Y_visit 0 = .ok (.aload_n 0, 1) := by decide +kernel
theorem d_Y_visit_1 : decode c_Y_visit 1 = .ok (.iload_n 1, 1) := by decide +kernel
theorem d_Y_visit_2 : decode c_Y_visit 2 = .ok (.invokevirtual 91, 3) := by decide +kernel
theorem d_Y_visit_5 : decode c_Y_visit 5 = .ok (.istore_n 2, 1) := by decide +kernel
theorem d_Y_visit_6 : decode c_Y_visit 6 = .ok (.iload_n 2, 1) := by decide +kernel
theorem d_Y_visit_7 : decode c_Y_visit 7 = .ok (.ifCond .eq 5, 3) := by decide +kernel
theorem d_Y_visit_10 : decode c_Y_visit 10 = .ok (.iload_n 2, 1) := by decide +kernel
theorem d_Y_visit_11 : decode c_Y_visit 11 = .ok (.ireturn, 1) := by decide +kernel
theorem d_Y_visit_12 : decode c_Y_visit 12 = .ok (.aload_n 0, 1) := by decide +kernel
theorem d_Y_visit_13 : decode c_Y_visit 13 = .ok (.getfield 17, 3) := by decide +kernel
theorem d_Y_visit_16 : decode c_Y_visit 16 = .ok (.iload_n 1, 1) := by decide +kernel
theorem d_Y_visit_17 : decode c_Y_visit 17 = .ok (.iaload, 1) := by decide +kernel
theorem d_Y_visit_18 : decode c_Y_visit 18 = .ok (.istore_n 3, 1) := by decide +kernel
theorem d_Y_visit_19 : decode c_Y_visit 19 = .ok (.aload_n 0, 1) := by decide +kernel
theorem d_Y_visit_20 : decode c_Y_visit 20 = .ok (.getfield 56, 3) := by decide +kernel
theorem d_Y_visit_23 : decode c_Y_visit 23 = .ok (.iload_n 3, 1) := by decide +kernel
theorem d_Y_visit_24 : decode c_Y_visit 24 = .ok (.iaload, 1) := by decide +kernel
theorem d_Y_visit_25 : decode c_Y_visit 25 = .ok (.iload_n 1, 1) := by decide +kernel
theorem d_Y_visit_26 : decode c_Y_visit 26 = .ok (.if_icmp .eq 5, 3) := by decide +kernel
theorem d_Y_visit_29 : decode c_Y_visit 29 = .ok (.iconst (-1), 1) := by decide +kernel
theorem d_Y_visit_30 : decode c_Y_visit 30 = .ok (.ireturn, 1) := by decide +kernel
theorem d_Y_visit_31 : decode c_Y_visit 31 = .ok (.aload_n 0, 1) := by decide +kernel
theorem d_Y_visit_32 : decode c_Y_visit 32 = .ok (.iload_n 1, 1) := by decide +kernel
theorem d_Y_visit_33 : decode c_Y_visit 33 = .ok (.iload_n 3, 1) := by decide +kernel
theorem d_Y_visit_34 : decode c_Y_visit 34 = .ok (.invokevirtual 113, 3) := by decide +kernel
theorem d_Y_visit_37 : decode c_Y_visit 37 = .ok (.istore 4, 2) := by decide +kernel
theorem d_Y_visit_39 : decode c_Y_visit 39 = .ok (.aload_n 0, 1) := by decide +kernel
theorem d_Y_visit_40 : decode c_Y_visit 40 = .ok (.iload_n 1, 1) := by decide +kernel
theorem d_Y_visit_41 : decode c_Y_visit 41 = .ok (.iload_n 3, 1) := by decide +kernel
theorem d_Y_visit_42 : decode c_Y_visit 42 = .ok (.invokevirtual 116, 3) := by decide +kernel
theorem d_Y_visit_45 : decode c_Y_visit 45 = .ok (.istore 5, 2) := by decide +kernel
theorem d_Y_visit_47 : decode c_Y_visit 47 = .ok (.aload_n 0, 1) := by decide +kernel
theorem d_Y_visit_48 : decode c_Y_visit 48 = .ok (.getfield 65, 3) := by decide +kernel
theorem d_Y_visit_51 : decode c_Y_visit 51 = .ok (.iconst 5, 1) := by decide +kernel
theorem d_Y_visit_52 : decode c_Y_visit 52 = .ok (.iload_n 3, 1) := by decide +kernel
theorem d_Y_visit_53 : decode c_Y_visit 53 = .ok (.imul, 1) := by decide +kernel
theorem d_Y_visit_54 : decode c_Y_visit 54 = .ok (.iload_n 1, 1) := by decide +kernel
theorem d_Y_visit_55 : decode c_Y_visit 55 = .ok (.iadd, 1) := by decide +kernel
theorem d_Y_visit_56 : decode c_Y_visit 56 = .ok (.aload_n 0, 1) := by decide +kernel
theorem d_Y_visit_57 : decode c_Y_visit 57 = .ok (.iload_n 1, 1) := by decide +kernel
theorem d_Y_visit_58 : decode c_Y_visit 58 = .ok (.invokevirtual 119, 3) := by decide +kernel
theorem d_Y_visit_61 : decode c_Y_visit 61 = .ok (.iastore, 1) := by decide +kernel
theorem d_Y_visit_62 : decode c_Y_visit 62 = .ok (.iconst 1, 1) := by decide +kernel
theorem d_Y_visit_63 : decode c_Y_visit 63 = .ok (.istore 6, 2) := by decide +kernel
theorem d_Y_visit_65 : decode c_Y_visit 65 = .ok (.iload 6, 2) := by decide +kernel
theorem d_Y_visit_67 : decode c_Y_visit 67 = .ok (.aload_n 0, 1) := by decide +kernel
theorem d_Y_visit_68 : decode c_Y_visit 68 = .ok (.getfield 59, 3) := by decide +kernel
theorem d_Y_visit_71 : decode c_Y_visit 71 = .ok (.iload_n 3, 1) := by decide +kernel
theorem d_Y_visit_72 : decode c_Y_visit 72 = .ok (.iaload, 1) := by decide +kernel
theorem d_Y_visit_73 : decode c_Y_visit 73 = .ok (.if_icmp .gt 45, 3) := by decide +kernel
theorem d_Y_visit_76 : decode c_Y_visit 76 = .ok (.aload_n 0, 1) := by decide +kernel
theorem d_Y_visit_77 : decode c_Y_visit 77 = .ok (.getfield 68, 3) := by decide +kernel
theorem d_Y_visit_80 : decode c_Y_visit 80 = .ok (.iload_n 3, 1) := by decide +kernel
theorem d_Y_visit_81 : decode c_Y_visit 81 = .ok (.aload_n 0, 1) := by decide +kernel
theorem d_Y_visit_82 : decode c_Y_visit 82 = .ok (.iload_n 1, 1) := by decide +kernel
theorem d_Y_visit_83 : decode c_Y_visit 83 = .ok (.iload 6, 2) := by decide +kernel
theorem d_Y_visit_85 : decode c_Y_visit 85 = .ok (.invokevirtual 87, 3) := by decide +kernel
theorem d_Y_visit_88 : decode c_Y_visit 88 = .ok (.ifCond .eq 12, 3) := by decide +kernel
theorem d_Y_visit_91 : decode c_Y_visit 91 = .ok (.aload_n 0, 1) := by decide +kernel
theorem d_Y_visit_92 : decode c_Y_visit 92 = .ok (.getfield 68, 3) := by decide +kernel
theorem d_Y_visit_95 : decode c_Y_visit 95 = .ok (.iload_n 3, 1) := by decide +kernel
theorem d_Y_visit_96 : decode c_Y_visit 96 = .ok (.laload, 1) := by decide +kernel
theorem d_Y_visit_97 : decode c_Y_visit 97 = .ok (.goto 14, 3) := by decide +kernel
theorem d_Y_visit_100 : decode c_Y_visit 100 = .ok (.aload_n 0, 1) := by decide +kernel
theorem d_Y_visit_101 : decode c_Y_visit 101 = .ok (.getfield 68, 3) := by decide +kernel
theorem d_Y_visit_104 : decode c_Y_visit 104 = .ok (.iload_n 3, 1) := by decide +kernel
theorem d_Y_visit_105 : decode c_Y_visit 105 = .ok (.laload, 1) := by decide +kernel
theorem d_Y_visit_106 : decode c_Y_visit 106 = .ok (.lconst 1, 1) := by decide +kernel
theorem d_Y_visit_107 : decode c_Y_visit 107 = .ok (.iload 6, 2) := by decide +kernel
theorem d_Y_visit_109 : decode c_Y_visit 109 = .ok (.lshl, 1) := by decide +kernel
theorem d_Y_visit_110 : decode c_Y_visit 110 = .ok (.lor, 1) := by decide +kernel
theorem d_Y_visit_111 : decode c_Y_visit 111 = .ok (.lastore, 1) := by decide +kernel
theorem d_Y_visit_112 : decode c_Y_visit 112 = .ok (.iinc 6 1, 3) := by decide +kernel
theorem d_Y_visit_115 : decode c_Y_visit 115 = .ok (.goto (-50), 3) := by decide +kernel
theorem d_Y_visit_118 : decode c_Y_visit 118 = .ok (.bipush 48, 2) := by decide +kernel
theorem d_Y_visit_120 : decode c_Y_visit 120 = .ok (.istore 6, 2) := by decide +kernel
theorem d_Y_visit_122 : decode c_Y_visit 122 = .ok (.iconst 0, 1) := by decide +kernel
theorem d_Y_visit_123 : decode c_Y_visit 123 = .ok (.istore 7, 2) := by decide +kernel
theorem d_Y_visit_125 : decode c_Y_visit 125 = .ok (.iload 7, 2) := by decide +kernel
theorem d_Y_visit_127 : decode c_Y_visit 127 = .ok (.iconst 5, 1) := by decide +kernel
theorem d_Y_visit_128 : decode c_Y_visit 128 = .ok (.if_icmp .ge 70, 3) := by decide +kernel
theorem d_Y_visit_131 : decode c_Y_visit 131 = .ok (.aload_n 0, 1) := by decide +kernel
theorem d_Y_visit_132 : decode c_Y_visit 132 = .ok (.getfield 62, 3) := by decide +kernel
theorem d_Y_visit_135 : decode c_Y_visit 135 = .ok (.iload_n 3, 1) := by decide +kernel
theorem d_Y_visit_136 : decode c_Y_visit 136 = .ok (.iaload, 1) := by decide +kernel
theorem d_Y_visit_137 : decode c_Y_visit 137 = .ok (.iload 7, 2) := by decide +kernel
theorem d_Y_visit_139 : decode c_Y_visit 139 = .ok (.ishr, 1) := by decide +kernel
theorem d_Y_visit_140 : decode c_Y_visit 140 = .ok (.iconst 1, 1) := by decide +kernel
theorem d_Y_visit_141 : decode c_Y_visit 141 = .ok (.iand, 1) := by decide +kernel
theorem d_Y_visit_142 : decode c_Y_visit 142 = .ok (.iconst 1, 1) := by decide +kernel
theorem d_Y_visit_143 : decode c_Y_visit 143 = .ok (.if_icmp .ne 7, 3) := by decide +kernel
theorem d_Y_visit_146 : decode c_Y_visit 146 = .ok (.iconst 1, 1) := by decide +kernel
theorem d_Y_visit_147 : decode c_Y_visit 147 = .ok (.goto 4, 3) := by decide +kernel
theorem d_Y_visit_150 : decode c_Y_visit 150 = .ok (.iconst 0, 1) := by decide +kernel
theorem d_Y_visit_151 : decode c_Y_visit 151 = .ok (.istore 8, 2) := by decide +kernel
theorem d_Y_visit_153 : decode c_Y_visit 153 = .ok (.iload 8, 2) := by decide +kernel
theorem d_Y_visit_155 : decode c_Y_visit 155 = .ok (.ifCond .eq 33, 3) := by decide +kernel
theorem d_Y_visit_158 : decode c_Y_visit 158 = .ok (.aload_n 0, 1) := by decide +kernel
theorem d_Y_visit_159 : decode c_Y_visit 159 = .ok (.getfield 65, 3) := by decide +kernel
theorem d_Y_visit_162 : decode c_Y_visit 162 = .ok (.iconst 5, 1) := by decide +kernel
theorem d_Y_visit_163 : decode c_Y_visit 163 = .ok (.iload_n 3, 1) := by decide +kernel
theorem d_Y_visit_164 : decode c_Y_visit 164 = .ok (.imul, 1) := by decide +kernel
theorem d_Y_visit_165 : decode c_Y_visit 165 = .ok (.iload 7, 2) := by decide +kernel
theorem d_Y_visit_167 : decode c_Y_visit 167 = .ok (.iadd, 1) := by decide +kernel
theorem d_Y_visit_168 : decode c_Y_visit 168 = .ok (.iaload, 1) := by decide +kernel
theorem d_Y_visit_169 : decode c_Y_visit 169 = .ok (.iload 6, 2) := by decide +kernel
theorem d_Y_visit_171 : decode c_Y_visit 171 = .ok (.if_icmp .ge 17, 3) := by decide +kernel
theorem d_Y_visit_174 : decode c_Y_visit 174 = .ok (.aload_n 0, 1) := by decide +kernel
theorem d_Y_visit_175 : decode c_Y_visit 175 = .ok (.getfield 65, 3) := by decide +kernel
theorem d_Y_visit_178 : decode c_Y_visit 178 = .ok (.iconst 5, 1) := by decide +kernel
theorem d_Y_visit_179 : decode c_Y_visit 179 = .ok (.iload_n 3, 1) := by decide +kernel
theorem d_Y_visit_180 : decode c_Y_visit 180 = .ok (.imul, 1) := by decide +kernel
theorem d_Y_visit_181 : decode c_Y_visit 181 = .ok (.iload 7, 2) := by decide +kernel
theorem d_Y_visit_183 : decode c_Y_visit 183 = .ok (.iadd, 1) := by decide +kernel
theorem d_Y_visit_184 : decode c_Y_visit 184 = .ok (.iaload, 1) := by decide +kernel
theorem d_Y_visit_185 : decode c_Y_visit 185 = .ok (.goto 5, 3) := by decide +kernel
theorem d_Y_visit_188 : decode c_Y_visit 188 = .ok (.iload 6, 2) := by decide +kernel
theorem d_Y_visit_190 : decode c_Y_visit 190 = .ok (.istore 6, 2) := by decide +kernel
theorem d_Y_visit_192 : decode c_Y_visit 192 = .ok (.iinc 7 1, 3) := by decide +kernel
theorem d_Y_visit_195 : decode c_Y_visit 195 = .ok (.goto (-70), 3) := by decide +kernel
theorem d_Y_visit_198 : decode c_Y_visit 198 = .ok (.aload_n 0, 1) := by decide +kernel
theorem d_Y_visit_199 : decode c_Y_visit 199 = .ok (.getfield 20, 3) := by decide +kernel
theorem d_Y_visit_202 : decode c_Y_visit 202 = .ok (.iload_n 1, 1) := by decide +kernel
theorem d_Y_visit_203 : decode c_Y_visit 203 = .ok (.iload 6, 2) := by decide +kernel
theorem d_Y_visit_205 : decode c_Y_visit 205 = .ok (.iastore, 1) := by decide +kernel
