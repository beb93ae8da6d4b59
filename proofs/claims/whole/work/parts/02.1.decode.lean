/-! decode rows, by program out of the listing -/
theorem d_O_init_0 : decode c_O_init 0 = .ok (.aload_n 0, 1) := by decide +kernel
theorem d_O_init_1 : decode c_O_init 1 = .ok (.invokespecial 1, 3) := by decide +kernel
theorem d_O_init_4 : decode c_O_init 4 = .ok (.aload_n 0, 1) := by decide +kernel
theorem d_O_init_5 : decode c_O_init 5 = .ok (.iconst 5, 1) := by decide +kernel
theorem d_O_init_6 : decode c_O_init 6 = .ok (.anewarray 9, 3) := by decide +kernel
theorem d_O_init_9 : decode c_O_init 9 = .ok (.putfield 11, 3) := by decide +kernel
theorem d_O_init_12 : decode c_O_init 12 = .ok (.iconst 0, 1) := by decide +kernel
theorem d_O_init_13 : decode c_O_init 13 = .ok (.istore_n 1, 1) := by decide +kernel
theorem d_O_init_14 : decode c_O_init 14 = .ok (.iload_n 1, 1) := by decide +kernel
theorem d_O_init_15 : decode c_O_init 15 = .ok (.iconst 5, 1) := by decide +kernel
theorem d_O_init_16 : decode c_O_init 16 = .ok (.if_icmp .ge 23, 3) := by decide +kernel
theorem d_O_init_19 : decode c_O_init 19 = .ok (.aload_n 0, 1) := by decide +kernel
theorem d_O_init_20 : decode c_O_init 20 = .ok (.getfield 11, 3) := by decide +kernel
theorem d_O_init_23 : decode c_O_init 23 = .ok (.iload_n 1, 1) := by decide +kernel
theorem d_O_init_24 : decode c_O_init 24 = .ok (.new 9, 3) := by decide +kernel
theorem d_O_init_27 : decode c_O_init 27 = .ok (.dup, 1) := by decide +kernel
theorem d_O_init_28 : decode c_O_init 28 = .ok (.iload_n 1, 1) := by decide +kernel
theorem d_O_init_29 : decode c_O_init 29 = .ok (.invokespecial 15, 3) := by decide +kernel
theorem d_O_init_32 : decode c_O_init 32 = .ok (.aastore, 1) := by decide +kernel
theorem d_O_init_33 : decode c_O_init 33 = .ok (.iinc 1 1, 3) := by decide +kernel
theorem d_O_init_36 : decode c_O_init 36 = .ok (.goto (-22), 3) := by decide +kernel
theorem d_O_init_39 : decode c_O_init 39 = .ok (.aload_n 0, 1) := by decide +kernel
theorem d_O_init_40 : decode c_O_init 40 = .ok (.bipush 6, 2) := by decide +kernel
theorem d_O_init_42 : decode c_O_init 42 = .ok (.anewarray 18, 3) := by decide +kernel
theorem d_O_init_45 : decode c_O_init 45 = .ok (.putfield 20, 3) := by decide +kernel
theorem d_O_init_48 : decode c_O_init 48 = .ok (.iconst 0, 1) := by decide +kernel
theorem d_O_init_49 : decode c_O_init 49 = .ok (.istore_n 1, 1) := by decide +kernel
theorem d_O_init_50 : decode c_O_init 50 = .ok (.iload_n 1, 1) := by decide +kernel
theorem d_O_init_51 : decode c_O_init 51 = .ok (.iconst 5, 1) := by decide +kernel
theorem d_O_init_52 : decode c_O_init 52 = .ok (.if_icmp .gt 22, 3) := by decide +kernel
theorem d_O_init_55 : decode c_O_init 55 = .ok (.aload_n 0, 1) := by decide +kernel
theorem d_O_init_56 : decode c_O_init 56 = .ok (.getfield 20, 3) := by decide +kernel
theorem d_O_init_59 : decode c_O_init 59 = .ok (.iload_n 1, 1) := by decide +kernel
theorem d_O_init_60 : decode c_O_init 60 = .ok (.new 18, 3) := by decide +kernel
theorem d_O_init_63 : decode c_O_init 63 = .ok (.dup, 1) := by decide +kernel
theorem d_O_init_64 : decode c_O_init 64 = .ok (.invokespecial 24, 3) := by decide +kernel
theorem d_O_init_67 : decode c_O_init 67 = .ok (.aastore, 1) := by decide +kernel
theorem d_O_init_68 : decode c_O_init 68 = .ok (.iinc 1 1, 3) := by decide +kernel
theorem d_O_init_71 : decode c_O_init 71 = .ok (.goto (-21), 3) := by decide +kernel
theorem d_O_init_74 : decode c_O_init 74 = .ok (.aload_n 0, 1) := by decide +kernel
theorem d_O_init_75 : decode c_O_init 75 = .ok (.new 25, 3) := by decide +kernel
theorem d_O_init_78 : decode c_O_init 78 = .ok (.dup, 1) := by decide +kernel
theorem d_O_init_79 : decode c_O_init 79 = .ok (.invokespecial 27, 3) := by decide +kernel
theorem d_O_init_82 : decode c_O_init 82 = .ok (.putfield 28, 3) := by decide +kernel
theorem d_O_init_85 : decode c_O_init 85 = .ok (.aload_n 0, 1) := by decide +kernel
theorem d_O_init_86 : decode c_O_init 86 = .ok (.iconst 0, 1) := by decide +kernel
theorem d_O_init_87 : decode c_O_init 87 = .ok (.putfield 32, 3) := by decide +kernel
theorem d_O_init_90 : decode c_O_init 90 = .ok (.aload_n 0, 1) := by decide +kernel
theorem d_O_init_91 : decode c_O_init 91 = .ok (.bipush 31, 2) := by decide +kernel
theorem d_O_init_93 : decode c_O_init 93 = .ok (.invokevirtual 36, 3) := by decide +kernel
theorem d_O_init_96 : decode c_O_init 96 = .ok (.return_, 1) := by decide +kernel
theorem d_O_send_0 : decode c_O_send 0 = .ok (.iload_n 1, 1) := by decide +kernel
theorem d_O_send_1 : decode c_O_send 1 = .ok (.invokestatic 39, 3) := by decide +kernel
theorem d_O_send_4 : decode c_O_send 4 = .ok (.ifCond .ne 6, 3) := by decide +kernel
theorem d_O_send_7 : decode c_O_send 7 = .ok (.bipush (-3), 2) := by decide +kernel
theorem d_O_send_9 : decode c_O_send 9 = .ok (.ireturn, 1) := by decide +kernel
theorem d_O_send_10 : decode c_O_send 10 = .ok (.aload_n 0, 1) := by decide +kernel
theorem d_O_send_11 : decode c_O_send 11 = .ok (.getfield 11, 3) := by decide +kernel
theorem d_O_send_14 : decode c_O_send 14 = .ok (.iload_n 1, 1) := by decide +kernel
theorem d_O_send_15 : decode c_O_send 15 = .ok (.aaload, 1) := by decide +kernel
theorem d_O_send_16 : decode c_O_send 16 = .ok (.astore_n 3, 1) := by decide +kernel
theorem d_O_send_17 : decode c_O_send 17 = .ok (.aload_n 3, 1) := by decide +kernel
theorem d_O_send_18 : decode c_O_send 18 = .ok (.invokevirtual 43, 3) := by decide +kernel
theorem d_O_send_21 : decode c_O_send 21 = .ok (.ifCond .ne 6, 3) := by decide +kernel
theorem d_O_send_24 : decode c_O_send 24 = .ok (.bipush (-2), 2) := by decide +kernel
theorem d_O_send_26 : decode c_O_send 26 = .ok (.ireturn, 1) := by decide +kernel
theorem d_O_send_27 : decode c_O_send 27 = .ok (.aload_n 0, 1) := by decide +kernel
theorem d_O_send_28 : decode c_O_send 28 = .ok (.getfield 28, 3) := by decide +kernel
theorem d_O_send_31 : decode c_O_send 31 = .ok (.getfield 47, 3) := by decide +kernel
theorem d_O_send_34 : decode c_O_send 34 = .ok (.bipush 48, 2) := by decide +kernel
theorem d_O_send_36 : decode c_O_send 36 = .ok (.if_icmp .ge 12, 3) := by decide +kernel
theorem d_O_send_39 : decode c_O_send 39 = .ok (.aload_n 3, 1) := by decide +kernel
theorem d_O_send_40 : decode c_O_send 40 = .ok (.getfield 50, 3) := by decide +kernel
theorem d_O_send_43 : decode c_O_send 43 = .ok (.bipush 8, 2) := by decide +kernel
theorem d_O_send_45 : decode c_O_send 45 = .ok (.if_icmp .lt 6, 3) := by decide +kernel
theorem d_O_send_48 : decode c_O_send 48 = .ok (.bipush (-4), 2) := by decide +kernel
theorem d_O_send_50 : decode c_O_send 50 = .ok (.ireturn, 1) := by decide +kernel
theorem d_O_send_51 : decode c_O_send 51 = .ok (.aload_n 0, 1) := by decide +kernel
theorem d_O_send_52 : decode c_O_send 52 = .ok (.getfield 28, 3) := by decide +kernel
theorem d_O_send_55 : decode c_O_send 55 = .ok (.iload_n 1, 1) := by decide +kernel
theorem d_O_send_56 : decode c_O_send 56 = .ok (.iload_n 2, 1) := by decide +kernel
theorem d_O_send_57 : decode c_O_send 57 = .ok (.invokevirtual 53, 3) := by decide +kernel
theorem d_O_send_60 : decode c_O_send 60 = .ok (.istore 4, 2) := by decide +kernel
theorem d_O_send_62 : decode c_O_send 62 = .ok (.aload_n 3, 1) := by decide +kernel
theorem d_O_send_63 : decode c_O_send 63 = .ok (.iload 4, 2) := by decide +kernel
theorem d_O_send_65 : decode c_O_send 65 = .ok (.invokevirtual 57, 3) := by decide +kernel
theorem d_O_send_68 : decode c_O_send 68 = .ok (.iload 4, 2) := by decide +kernel
theorem d_O_send_70 : decode c_O_send 70 = .ok (.ireturn, 1) := by decide +kernel
theorem d_O_visit_0 : decode c_O_visit 0 = .ok (.iload_n 1, 1) := by decide +kernel
theorem d_O_visit_1 : decode c_O_visit 1 = .ok (.invokestatic 39, 3) := by decide +kernel
theorem d_O_visit_4 : decode c_O_visit 4 = .ok (.ifCond .ne 6, 3) := by decide +kernel
theorem d_O_visit_7 : decode c_O_visit 7 = .ok (.bipush (-3), 2) := by decide +kernel
theorem d_O_visit_9 : decode c_O_visit 9 = .ok (.ireturn, 1) := by decide +kernel
theorem d_O_visit_10 : decode c_O_visit 10 = .ok (.aload_n 0, 1) := by decide +kernel
theorem d_O_visit_11 : decode c_O_visit 11 = .ok (.getfield 11, 3) := by decide +kernel
theorem d_O_visit_14 : decode c_O_visit 14 = .ok (.iload_n 1, 1) := by decide +kernel
theorem d_O_visit_15 : decode c_O_visit 15 = .ok (.aaload, 1) := by decide +kernel
theorem d_O_visit_16 : decode c_O_visit 16 = .ok (.astore_n 2, 1) := by decide +kernel
theorem d_O_visit_17 : decode c_O_visit 17 = .ok (.aload_n 2, 1) := by decide +kernel
theorem d_O_visit_18 : decode c_O_visit 18 = .ok (.getfield 60, 3) := by decide +kernel
theorem d_O_visit_21 : decode c_O_visit 21 = .ok (.astore_n 3, 1) := by decide +kernel
theorem d_O_visit_22 : decode c_O_visit 22 = .ok (.aload_n 3, 1) := by decide +kernel
theorem d_O_visit_23 : decode c_O_visit 23 = .ok (.ifnonnull 6, 3) := by decide +kernel
theorem d_O_visit_26 : decode c_O_visit 26 = .ok (.bipush (-2), 2) := by decide +kernel
theorem d_O_visit_28 : decode c_O_visit 28 = .ok (.ireturn, 1) := by decide +kernel
theorem d_O_visit_29 : decode c_O_visit 29 = .ok (.aload_n 3, 1) := by decide +kernel
theorem d_O_visit_30 : decode c_O_visit 30 = .ok (.getfield 64, 3) := by decide +kernel
theorem d_O_visit_33 : decode c_O_visit 33 = .ok (.iload_n 1, 1) := by decide +kernel
theorem d_O_visit_34 : decode c_O_visit 34 = .ok (.if_icmp .eq 5, 3) := by decide +kernel
theorem d_O_visit_37 : decode c_O_visit 37 = .ok (.iconst (-1), 1) := by decide +kernel
theorem d_O_visit_38 : decode c_O_visit 38 = .ok (.ireturn, 1) := by decide +kernel
theorem d_O_visit_39 : decode c_O_visit 39 = .ok (.aload_n 0, 1) := by decide +kernel
theorem d_O_visit_40 : decode c_O_visit 40 = .ok (.aload_n 2, 1) := by decide +kernel
theorem d_O_visit_41 : decode c_O_visit 41 = .ok (.aload_n 3, 1) := by decide +kernel
theorem d_O_visit_42 : decode c_O_visit 42 = .ok (.invokevirtual 67, 3) := by decide +kernel
theorem d_O_visit_45 : decode c_O_visit 45 = .ok (.istore 4, 2) := by decide +kernel
theorem d_O_visit_47 : decode c_O_visit 47 = .ok (.aload_n 0, 1) := by decide +kernel
theorem d_O_visit_48 : decode c_O_visit 48 = .ok (.aload_n 2, 1) := by decide +kernel
theorem d_O_visit_49 : decode c_O_visit 49 = .ok (.aload_n 3, 1) := by decide +kernel
theorem d_O_visit_50 : decode c_O_visit 50 = .ok (.invokevirtual 71, 3) := by decide +kernel
theorem d_O_visit_53 : decode c_O_visit 53 = .ok (.istore 5, 2) := by decide +kernel
theorem d_O_visit_55 : decode c_O_visit 55 = .ok (.aload_n 3, 1) := by decide +kernel
theorem d_O_visit_56 : decode c_O_visit 56 = .ok (.aload_n 2, 1) := by decide +kernel
theorem d_O_visit_57 : decode c_O_visit 57 = .ok (.invokevirtual 74, 3) := by decide +kernel
theorem d_O_visit_60 : decode c_O_visit 60 = .ok (.aload_n 2, 1) := by decide +kernel
theorem d_O_visit_61 : decode c_O_visit 61 = .ok (.aload_n 3, 1) := by decide +kernel
theorem d_O_visit_62 : decode c_O_visit 62 = .ok (.invokevirtual 78, 3) := by decide +kernel
theorem d_O_visit_65 : decode c_O_visit 65 = .ok (.putfield 82, 3) := by decide +kernel
theorem d_O_visit_68 : decode c_O_visit 68 = .ok (.aload_n 0, 1) := by decide +kernel
theorem d_O_visit_69 : decode c_O_visit 69 = .ok (.aload_n 3, 1) := by decide +kernel
theorem d_O_visit_70 : decode c_O_visit 70 = .ok (.invokevirtual 85, 3) := by decide +kernel
theorem d_O_visit_73 : decode c_O_visit 73 = .ok (.aload_n 2, 1) := by decide +kernel
theorem d_O_visit_74 : decode c_O_visit 74 = .ok (.iconst 0, 1) := by decide +kernel
theorem d_O_visit_75 : decode c_O_visit 75 = .ok (.putfield 89, 3) := by decide +kernel
theorem d_O_visit_78 : decode c_O_visit 78 = .ok (.aload_n 0, 1) := by decide +kernel
theorem d_O_visit_79 : decode c_O_visit 79 = .ok (.aload_n 2, 1) := by decide +kernel
theorem d_O_visit_80 : decode c_O_visit 80 = .ok (.invokevirtual 92, 3) := by decide +kernel
theorem d_O_visit_83 : decode c_O_visit 83 = .ok (.ifCond .eq 14, 3) := by decide +kernel
theorem d_O_visit_86 : decode c_O_visit 86 = .ok (.aload_n 0, 1) := by decide +kernel
theorem d_O_visit_87 : decode c_O_visit 87 = .ok (.aload_n 2, 1) := by decide +kernel
theorem d_O_visit_88 : decode c_O_visit 88 = .ok (.getfield 96, 3) := by decide +kernel
theorem d_O_visit_91 : decode c_O_visit 91 = .ok (.invokevirtual 99, 3) := by decide +kernel
theorem d_O_visit_94 : decode c_O_visit 94 = .ok (.goto 9, 3) := by decide +kernel
theorem d_O_visit_97 : decode c_O_visit 97 = .ok (.aload_n 0, 1) := by decide +kernel
theorem d_O_visit_98 : decode c_O_visit 98 = .ok (.aload_n 2, 1) := by decide +kernel
theorem d_O_visit_99 : decode c_O_visit 99 = .ok (.aload_n 3, 1) := by decide +kernel
theorem d_O_visit_100 : decode c_O_visit 100 = .ok (.invokevirtual 102, 3) := by decide +kernel
theorem d_O_visit_103 : decode c_O_visit 103 = .ok (.iload 4, 2) := by decide +kernel
theorem d_O_visit_105 : decode c_O_visit 105 = .ok (.iload 5, 2) := by decide +kernel
theorem d_O_visit_107 : decode c_O_visit 107 = .ok (.iadd, 1) := by decide +kernel
theorem d_O_visit_108 : decode c_O_visit 108 = .ok (.ireturn, 1) := by decide +kernel
theorem d_O_tick_0 : decode c_O_tick 0 = .ok (.iload_n 1, 1) := by decide +kernel
theorem d_O_tick_1 : decode c_O_tick 1 = .ok (.invokestatic 39, 3) := by decide +kernel
theorem d_O_tick_4 : decode c_O_tick 4 = .ok (.ifCond .ne 6, 3) := by decide +kernel
theorem d_O_tick_7 : decode c_O_tick 7 = .ok (.bipush (-3), 2) := by decide +kernel
theorem d_O_tick_9 : decode c_O_tick 9 = .ok (.ireturn, 1) := by decide +kernel
theorem d_O_tick_10 : decode c_O_tick 10 = .ok (.aload_n 0, 1) := by decide +kernel
theorem d_O_tick_11 : decode c_O_tick 11 = .ok (.getfield 11, 3) := by decide +kernel
theorem d_O_tick_14 : decode c_O_tick 14 = .ok (.iload_n 1, 1) := by decide +kernel
theorem d_O_tick_15 : decode c_O_tick 15 = .ok (.aaload, 1) := by decide +kernel
theorem d_O_tick_16 : decode c_O_tick 16 = .ok (.astore_n 2, 1) := by decide +kernel
theorem d_O_tick_17 : decode c_O_tick 17 = .ok (.aload_n 2, 1) := by decide +kernel
theorem d_O_tick_18 : decode c_O_tick 18 = .ok (.invokevirtual 43, 3) := by decide +kernel
theorem d_O_tick_21 : decode c_O_tick 21 = .ok (.ifCond .ne 6, 3) := by decide +kernel
theorem d_O_tick_24 : decode c_O_tick 24 = .ok (.bipush (-2), 2) := by decide +kernel
theorem d_O_tick_26 : decode c_O_tick 26 = .ok (.ireturn, 1) := by decide +kernel
theorem d_O_tick_27 : decode c_O_tick 27 = .ok (.aload_n 2, 1) := by decide +kernel
theorem d_O_tick_28 : decode c_O_tick 28 = .ok (.dup, 1) := by decide +kernel
theorem d_O_tick_29 : decode c_O_tick 29 = .ok (.getfield 89, 3) := by decide +kernel
theorem d_O_tick_32 : decode c_O_tick 32 = .ok (.iconst 1, 1) := by decide +kernel
theorem d_O_tick_33 : decode c_O_tick 33 = .ok (.iadd, 1) := by decide +kernel
theorem d_O_tick_34 : decode c_O_tick 34 = .ok (.putfield 89, 3) := by decide +kernel
theorem d_O_tick_37 : decode c_O_tick 37 = .ok (.aload_n 2, 1) := by decide +kernel
theorem d_O_tick_38 : decode c_O_tick 38 = .ok (.getfield 89, 3) := by decide +kernel
theorem d_O_tick_41 : decode c_O_tick 41 = .ok (.iconst 4, 1) := by decide +kernel
theorem d_O_tick_42 : decode c_O_tick 42 = .ok (.if_icmp .ge 5, 3) := by decide +kernel
theorem d_O_tick_45 : decode c_O_tick 45 = .ok (.iconst 0, 1) := by decide +kernel
theorem d_O_tick_46 : decode c_O_tick 46 = .ok (.ireturn, 1) := by decide +kernel
theorem d_O_tick_47 : decode c_O_tick 47 = .ok (.aload_n 0, 1) := by decide +kernel
theorem d_O_tick_48 : decode c_O_tick 48 = .ok (.aload_n 2, 1) := by decide +kernel
theorem d_O_tick_49 : decode c_O_tick 49 = .ok (.getfield 96, 3) := by decide +kernel
theorem d_O_tick_52 : decode c_O_tick 52 = .ok (.invokevirtual 99, 3) := by decide +kernel
theorem d_O_tick_55 : decode c_O_tick 55 = .ok (.iconst 1, 1) := by decide +kernel
theorem d_O_tick_56 : decode c_O_tick 56 = .ok (.ireturn, 1) := by decide +kernel
theorem d_O_crash_0 : decode c_O_crash 0 = .ok (.aload_n 0, 1) := by decide +kernel
theorem d_O_crash_1 : decode c_O_crash 1 = .ok (.iload_n 1, 1) := by decide +kernel
theorem d_O_crash_2 : decode c_O_crash 2 = .ok (.invokevirtual 106, 3) := by decide +kernel
theorem d_O_crash_5 : decode c_O_crash 5 = .ok (.ifCond .ne 5, 3) := by decide +kernel
theorem d_O_crash_8 : decode c_O_crash 8 = .ok (.iconst 0, 1) := by decide +kernel
theorem d_O_crash_9 : decode c_O_crash 9 = .ok (.ireturn, 1) := by decide +kernel
theorem d_O_crash_10 : decode c_O_crash 10 = .ok (.aload_n 0, 1) := by decide +kernel
theorem d_O_crash_11 : decode c_O_crash 11 = .ok (.getfield 11, 3) := by decide +kernel
theorem d_O_crash_14 : decode c_O_crash 14 = .ok (.iload_n 1, 1) := by decide +kernel
theorem d_O_crash_15 : decode c_O_crash 15 = .ok (.aaload, 1) := by decide +kernel
theorem d_O_crash_16 : decode c_O_crash 16 = .ok (.invokevirtual 109, 3) := by decide +kernel
theorem d_O_crash_19 : decode c_O_crash 19 = .ok (.iconst 1, 1) := by decide +kernel
theorem d_O_crash_20 : decode c_O_crash 20 = .ok (.ireturn, 1) := by decide +kernel
theorem d_O_restart_0 : decode c_O_restart 0 = .ok (.iload_n 1, 1) := by decide +kernel
theorem d_O_restart_1 : decode c_O_restart 1 = .ok (.invokestatic 39, 3) := by decide +kernel
theorem d_O_restart_4 : decode c_O_restart 4 = .ok (.ifCond .eq 15, 3) := by decide +kernel
theorem d_O_restart_7 : decode c_O_restart 7 = .ok (.aload_n 0, 1) := by decide +kernel
theorem d_O_restart_8 : decode c_O_restart 8 = .ok (.getfield 11, 3) := by decide +kernel
theorem d_O_restart_11 : decode c_O_restart 11 = .ok (.iload_n 1, 1) := by decide +kernel
theorem d_O_restart_12 : decode c_O_restart 12 = .ok (.aaload, 1) := by decide +kernel
theorem d_O_restart_13 : decode c_O_restart 13 = .ok (.invokevirtual 43, 3) := by decide +kernel
theorem d_O_restart_16 : decode c_O_restart 16 = .ok (.ifCond .eq 5, 3) := by decide +kernel
theorem d_O_restart_19 : decode c_O_restart 19 = .ok (.iconst 0, 1) := by decide +kernel
theorem d_O_restart_20 : decode c_O_restart 20 = .ok (.ireturn, 1) := by decide +kernel
theorem d_O_restart_21 : decode c_O_restart 21 = .ok (.aload_n 0, 1) := by decide +kernel
theorem d_O_restart_22 : decode c_O_restart 22 = .ok (.iconst 1, 1) := by decide +kernel
theorem d_O_restart_23 : decode c_O_restart 23 = .ok (.iload_n 1, 1) := by decide +kernel
theorem d_O_restart_24 : decode c_O_restart 24 = .ok (.ishl, 1) := by decide +kernel
theorem d_O_restart_25 : decode c_O_restart 25 = .ok (.invokevirtual 36, 3) := by decide +kernel
theorem d_O_restart_28 : decode c_O_restart 28 = .ok (.iconst 1, 1) := by decide +kernel
theorem d_O_restart_29 : decode c_O_restart 29 = .ok (.ireturn, 1) := by decide +kernel
theorem d_O_place_0 : decode c_O_place 0 = .ok (.iload_n 1, 1) := by decide +kernel
theorem d_O_place_1 : decode c_O_place 1 = .ok (.invokestatic 39, 3) := by decide +kernel
theorem d_O_place_4 : decode c_O_place 4 = .ok (.ifCond .eq 12, 3) := by decide +kernel
theorem d_O_place_7 : decode c_O_place 7 = .ok (.iload_n 2, 1) := by decide +kernel
theorem d_O_place_8 : decode c_O_place 8 = .ok (.ifCond .lt 8, 3) := by decide +kernel
theorem d_O_place_11 : decode c_O_place 11 = .ok (.iload_n 2, 1) := by decide +kernel
theorem d_O_place_12 : decode c_O_place 12 = .ok (.iconst 3, 1) := by decide +kernel
theorem d_O_place_13 : decode c_O_place 13 = .ok (.if_icmp .lt 5, 3) := by decide +kernel
theorem d_O_place_16 : decode c_O_place 16 = .ok (.iconst 0, 1) := by decide +kernel
theorem d_O_place_17 : decode c_O_place 17 = .ok (.ireturn, 1) := by decide +kernel
theorem d_O_place_18 : decode c_O_place 18 = .ok (.aload_n 0, 1) := by decide +kernel
theorem d_O_place_19 : decode c_O_place 19 = .ok (.getfield 11, 3) := by decide +kernel
theorem d_O_place_22 : decode c_O_place 22 = .ok (.iload_n 1, 1) := by decide +kernel
theorem d_O_place_23 : decode c_O_place 23 = .ok (.aaload, 1) := by decide +kernel
theorem d_O_place_24 : decode c_O_place 24 = .ok (.iload_n 2, 1) := by decide +kernel
theorem d_O_place_25 : decode c_O_place 25 = .ok (.putfield 96, 3) := by decide +kernel
theorem d_O_place_28 : decode c_O_place 28 = .ok (.iconst 1, 1) := by decide +kernel
theorem d_O_place_29 : decode c_O_place 29 = .ok (.ireturn, 1) := by decide +kernel
theorem d_O_deafen_0 : decode c_O_deafen 0 = .ok (.aload_n 0, 1) := by decide +kernel
theorem d_O_deafen_1 : decode c_O_deafen 1 = .ok (.iload_n 1, 1) := by decide +kernel
theorem d_O_deafen_2 : decode c_O_deafen 2 = .ok (.invokevirtual 106, 3) := by decide +kernel
theorem d_O_deafen_5 : decode c_O_deafen 5 = .ok (.ifCond .eq 13, 3) := by decide +kernel
theorem d_O_deafen_8 : decode c_O_deafen 8 = .ok (.iload_n 2, 1) := by decide +kernel
theorem d_O_deafen_9 : decode c_O_deafen 9 = .ok (.ifCond .lt 9, 3) := by decide +kernel
theorem d_O_deafen_12 : decode c_O_deafen 12 = .ok (.iload_n 2, 1) := by decide +kernel
theorem d_O_deafen_13 : decode c_O_deafen 13 = .ok (.bipush 20, 2) := by decide +kernel
theorem d_O_deafen_15 : decode c_O_deafen 15 = .ok (.if_icmp .le 5, 3) := by decide +kernel
theorem d_O_deafen_18 : decode c_O_deafen 18 = .ok (.iconst 0, 1) := by decide +kernel
theorem d_O_deafen_19 : decode c_O_deafen 19 = .ok (.ireturn, 1) := by decide +kernel
theorem d_O_deafen_20 : decode c_O_deafen 20 = .ok (.aload_n 0, 1) := by decide +kernel
theorem d_O_deafen_21 : decode c_O_deafen 21 = .ok (.getfield 11, 3) := by decide +kernel
theorem d_O_deafen_24 : decode c_O_deafen 24 = .ok (.iload_n 1, 1) := by decide +kernel
theorem d_O_deafen_25 : decode c_O_deafen 25 = .ok (.aaload, 1) := by decide +kernel
theorem d_O_deafen_26 : decode c_O_deafen 26 = .ok (.iload_n 2, 1) := by decide +kernel
theorem d_O_deafen_27 : decode c_O_deafen 27 = .ok (.putfield 112, 3) := by decide +kernel
theorem d_O_deafen_30 : decode c_O_deafen 30 = .ok (.iconst 1, 1) := by decide +kernel
theorem d_O_deafen_31 : decode c_O_deafen 31 = .ok (.ireturn, 1) := by decide +kernel
theorem d_O_drop_0 : decode c_O_drop 0 = .ok (.iload_n 1, 1) := by decide +kernel
theorem d_O_drop_1 : decode c_O_drop 1 = .ok (.invokestatic 39, 3) := by decide +kernel
theorem d_O_drop_4 : decode c_O_drop 4 = .ok (.ifCond .ne 5, 3) := by decide +kernel
theorem d_O_drop_7 : decode c_O_drop 7 = .ok (.iconst 0, 1) := by decide +kernel
theorem d_O_drop_8 : decode c_O_drop 8 = .ok (.ireturn, 1) := by decide +kernel
theorem d_O_drop_9 : decode c_O_drop 9 = .ok (.aload_n 0, 1) := by decide +kernel
theorem d_O_drop_10 : decode c_O_drop 10 = .ok (.getfield 11, 3) := by decide +kernel
theorem d_O_drop_13 : decode c_O_drop 13 = .ok (.iload_n 1, 1) := by decide +kernel
theorem d_O_drop_14 : decode c_O_drop 14 = .ok (.aaload, 1) := by decide +kernel
theorem d_O_drop_15 : decode c_O_drop 15 = .ok (.getfield 60, 3) := by decide +kernel
theorem d_O_drop_18 : decode c_O_drop 18 = .ok (.astore_n 2, 1) := by decide +kernel
theorem d_O_drop_19 : decode c_O_drop 19 = .ok (.aload_n 2, 1) := by decide +kernel
theorem d_O_drop_20 : decode c_O_drop 20 = .ok (.ifnull 10, 3) := by decide +kernel
theorem d_O_drop_23 : decode c_O_drop 23 = .ok (.aload_n 2, 1) := by decide +kernel
theorem d_O_drop_24 : decode c_O_drop 24 = .ok (.invokevirtual 115, 3) := by decide +kernel
theorem d_O_drop_27 : decode c_O_drop 27 = .ok (.ifCond .eq 5, 3) := by decide +kernel
theorem d_O_drop_30 : decode c_O_drop 30 = .ok (.iconst 0, 1) := by decide +kernel
theorem d_O_drop_31 : decode c_O_drop 31 = .ok (.ireturn, 1) := by decide +kernel
theorem d_O_drop_32 : decode c_O_drop 32 = .ok (.aload_n 2, 1) := by decide +kernel
theorem d_O_drop_33 : decode c_O_drop 33 = .ok (.iconst (-1), 1) := by decide +kernel
theorem d_O_drop_34 : decode c_O_drop 34 = .ok (.putfield 64, 3) := by decide +kernel
theorem d_O_drop_37 : decode c_O_drop 37 = .ok (.iconst 1, 1) := by decide +kernel
theorem d_O_drop_38 : decode c_O_drop 38 = .ok (.ireturn, 1) := by decide +kernel
theorem d_O_ring_0 : decode c_O_ring 0 = .ok (.iload_n 1, 1) := by decide +kernel
theorem d_O_ring_1 : decode c_O_ring 1 = .ok (.invokestatic 39, 3) := by decide +kernel
theorem d_O_ring_4 : decode c_O_ring 4 = .ok (.ifCond .ne 6, 3) := by decide +kernel
theorem d_O_ring_7 : decode c_O_ring 7 = .ok (.bipush (-3), 2) := by decide +kernel
theorem d_O_ring_9 : decode c_O_ring 9 = .ok (.ireturn, 1) := by decide +kernel
theorem d_O_ring_10 : decode c_O_ring 10 = .ok (.aload_n 0, 1) := by decide +kernel
theorem d_O_ring_11 : decode c_O_ring 11 = .ok (.getfield 11, 3) := by decide +kernel
theorem d_O_ring_14 : decode c_O_ring 14 = .ok (.iload_n 1, 1) := by decide +kernel
theorem d_O_ring_15 : decode c_O_ring 15 = .ok (.aaload, 1) := by decide +kernel
theorem d_O_ring_16 : decode c_O_ring 16 = .ok (.getfield 60, 3) := by decide +kernel
theorem d_O_ring_19 : decode c_O_ring 19 = .ok (.astore_n 2, 1) := by decide +kernel
theorem d_O_ring_20 : decode c_O_ring 20 = .ok (.aload_n 2, 1) := by decide +kernel
theorem d_O_ring_21 : decode c_O_ring 21 = .ok (.ifnonnull 8, 3) := by decide +kernel
theorem d_O_ring_24 : decode c_O_ring 24 = .ok (.bipush (-2), 2) := by decide +kernel
theorem d_O_ring_26 : decode c_O_ring 26 = .ok (.goto 7, 3) := by decide +kernel
theorem d_O_ring_29 : decode c_O_ring 29 = .ok (.aload_n 2, 1) := by decide +kernel
theorem d_O_ring_30 : decode c_O_ring 30 = .ok (.getfield 118, 3) := by decide +kernel
theorem d_O_ring_33 : decode c_O_ring 33 = .ok (.ireturn, 1) := by decide +kernel
theorem d_O_members_0 : decode c_O_members 0 = .ok (.iload_n 1, 1) := by decide +kernel
theorem d_O_members_1 : decode c_O_members 1 = .ok (.invokestatic 39, 3) := by decide +kernel
theorem d_O_members_4 : decode c_O_members 4 = .ok (.ifCond .ne 6, 3) := by decide +kernel
theorem d_O_members_7 : decode c_O_members 7 = .ok (.bipush (-3), 2) := by decide +kernel
theorem d_O_members_9 : decode c_O_members 9 = .ok (.ireturn, 1) := by decide +kernel
theorem d_O_members_10 : decode c_O_members 10 = .ok (.aload_n 0, 1) := by decide +kernel
theorem d_O_members_11 : decode c_O_members 11 = .ok (.getfield 11, 3) := by decide +kernel
theorem d_O_members_14 : decode c_O_members 14 = .ok (.iload_n 1, 1) := by decide +kernel
theorem d_O_members_15 : decode c_O_members 15 = .ok (.aaload, 1) := by decide +kernel
theorem d_O_members_16 : decode c_O_members 16 = .ok (.getfield 60, 3) := by decide +kernel
theorem d_O_members_19 : decode c_O_members 19 = .ok (.astore_n 2, 1) := by decide +kernel
theorem d_O_members_20 : decode c_O_members 20 = .ok (.aload_n 2, 1) := by decide +kernel
theorem d_O_members_21 : decode c_O_members 21 = .ok (.ifnonnull 8, 3) := by decide +kernel
theorem d_O_members_24 : decode c_O_members 24 = .ok (.bipush (-2), 2) := by decide +kernel
theorem d_O_members_26 : decode c_O_members 26 = .ok (.goto 7, 3) := by decide +kernel
theorem d_O_members_29 : decode c_O_members 29 = .ok (.aload_n 2, 1) := by decide +kernel
theorem d_O_members_30 : decode c_O_members 30 = .ok (.getfield 121, 3) := by decide +kernel
theorem d_O_members_33 : decode c_O_members 33 = .ok (.ireturn, 1) := by decide +kernel
theorem d_O_token_0 : decode c_O_token 0 = .ok (.iload_n 1, 1) := by decide +kernel
theorem d_O_token_1 : decode c_O_token 1 = .ok (.invokestatic 39, 3) := by decide +kernel
theorem d_O_token_4 : decode c_O_token 4 = .ok (.ifCond .ne 6, 3) := by decide +kernel
theorem d_O_token_7 : decode c_O_token 7 = .ok (.bipush (-3), 2) := by decide +kernel
theorem d_O_token_9 : decode c_O_token 9 = .ok (.ireturn, 1) := by decide +kernel
theorem d_O_token_10 : decode c_O_token 10 = .ok (.aload_n 0, 1) := by decide +kernel
theorem d_O_token_11 : decode c_O_token 11 = .ok (.getfield 11, 3) := by decide +kernel
theorem d_O_token_14 : decode c_O_token 14 = .ok (.iload_n 1, 1) := by decide +kernel
theorem d_O_token_15 : decode c_O_token 15 = .ok (.aaload, 1) := by decide +kernel
theorem d_O_token_16 : decode c_O_token 16 = .ok (.getfield 60, 3) := by decide +kernel
theorem d_O_token_19 : decode c_O_token 19 = .ok (.astore_n 2, 1) := by decide +kernel
theorem d_O_token_20 : decode c_O_token 20 = .ok (.aload_n 2, 1) := by decide +kernel
theorem d_O_token_21 : decode c_O_token 21 = .ok (.ifnonnull 6, 3) := by decide +kernel
theorem d_O_token_24 : decode c_O_token 24 = .ok (.bipush (-2), 2) := by decide +kernel
theorem d_O_token_26 : decode c_O_token 26 = .ok (.ireturn, 1) := by decide +kernel
theorem d_O_token_27 : decode c_O_token 27 = .ok (.aload_n 2, 1) := by decide +kernel
theorem d_O_token_28 : decode c_O_token 28 = .ok (.invokevirtual 115, 3) := by decide +kernel
theorem d_O_token_31 : decode c_O_token 31 = .ok (.ifCond .eq 7, 3) := by decide +kernel
theorem d_O_token_34 : decode c_O_token 34 = .ok (.iconst (-1), 1) := by decide +kernel
theorem d_O_token_35 : decode c_O_token 35 = .ok (.goto 7, 3) := by decide +kernel
theorem d_O_token_38 : decode c_O_token 38 = .ok (.aload_n 2, 1) := by decide +kernel
theorem d_O_token_39 : decode c_O_token 39 = .ok (.getfield 64, 3) := by decide +kernel
theorem d_O_token_42 : decode c_O_token 42 = .ok (.ireturn, 1) := by decide +kernel
theorem d_O_last_0 : decode c_O_last 0 = .ok (.iload_n 1, 1) := by decide +kernel
theorem d_O_last_1 : decode c_O_last 1 = .ok (.invokestatic 39, 3) := by decide +kernel
theorem d_O_last_4 : decode c_O_last 4 = .ok (.ifCond .ne 6, 3) := by decide +kernel
theorem d_O_last_7 : decode c_O_last 7 = .ok (.bipush (-3), 2) := by decide +kernel
theorem d_O_last_9 : decode c_O_last 9 = .ok (.ireturn, 1) := by decide +kernel
theorem d_O_last_10 : decode c_O_last 10 = .ok (.aload_n 0, 1) := by decide +kernel
theorem d_O_last_11 : decode c_O_last 11 = .ok (.getfield 11, 3) := by decide +kernel
theorem d_O_last_14 : decode c_O_last 14 = .ok (.iload_n 1, 1) := by decide +kernel
theorem d_O_last_15 : decode c_O_last 15 = .ok (.aaload, 1) := by decide +kernel
theorem d_O_last_16 : decode c_O_last 16 = .ok (.getfield 60, 3) := by decide +kernel
theorem d_O_last_19 : decode c_O_last 19 = .ok (.astore_n 2, 1) := by decide +kernel
theorem d_O_last_20 : decode c_O_last 20 = .ok (.aload_n 2, 1) := by decide +kernel
theorem d_O_last_21 : decode c_O_last 21 = .ok (.ifnonnull 6, 3) := by decide +kernel
theorem d_O_last_24 : decode c_O_last 24 = .ok (.bipush (-2), 2) := by decide +kernel
theorem d_O_last_26 : decode c_O_last 26 = .ok (.ireturn, 1) := by decide +kernel
theorem d_O_last_27 : decode c_O_last 27 = .ok (.aload_n 2, 1) := by decide +kernel
theorem d_O_last_28 : decode c_O_last 28 = .ok (.invokevirtual 115, 3) := by decide +kernel
theorem d_O_last_31 : decode c_O_last 31 = .ok (.ifCond .eq 7, 3) := by decide +kernel
theorem d_O_last_34 : decode c_O_last 34 = .ok (.iconst (-1), 1) := by decide +kernel
theorem d_O_last_35 : decode c_O_last 35 = .ok (.goto 7, 3) := by decide +kernel
theorem d_O_last_38 : decode c_O_last 38 = .ok (.aload_n 2, 1) := by decide +kernel
theorem d_O_last_39 : decode c_O_last 39 = .ok (.getfield 124, 3) := by decide +kernel
theorem d_O_last_42 : decode c_O_last 42 = .ok (.ireturn, 1) := by decide +kernel
theorem d_O_requests_0 : decode c_O_requests 0 = .ok (.iload_n 1, 1) := by decide +kernel
theorem d_O_requests_1 : decode c_O_requests 1 = .ok (.invokestatic 39, 3) := by decide +kernel
theorem d_O_requests_4 : decode c_O_requests 4 = .ok (.ifCond .ne 6, 3) := by decide +kernel
theorem d_O_requests_7 : decode c_O_requests 7 = .ok (.bipush (-3), 2) := by decide +kernel
theorem d_O_requests_9 : decode c_O_requests 9 = .ok (.ireturn, 1) := by decide +kernel
theorem d_O_requests_10 : decode c_O_requests 10 = .ok (.aload_n 0, 1) := by decide +kernel
theorem d_O_requests_11 : decode c_O_requests 11 = .ok (.getfield 11, 3) := by decide +kernel
theorem d_O_requests_14 : decode c_O_requests 14 = .ok (.iload_n 1, 1) := by decide +kernel
theorem d_O_requests_15 : decode c_O_requests 15 = .ok (.aaload, 1) := by decide +kernel
theorem d_O_requests_16 : decode c_O_requests 16 = .ok (.getfield 60, 3) := by decide +kernel
theorem d_O_requests_19 : decode c_O_requests 19 = .ok (.astore_n 2, 1) := by decide +kernel
theorem d_O_requests_20 : decode c_O_requests 20 = .ok (.aload_n 2, 1) := by decide +kernel
theorem d_O_requests_21 : decode c_O_requests 21 = .ok (.ifnonnull 6, 3) := by decide +kernel
theorem d_O_requests_24 : decode c_O_requests 24 = .ok (.bipush (-2), 2) := by decide +kernel
theorem d_O_requests_26 : decode c_O_requests 26 = .ok (.ireturn, 1) := by decide +kernel
theorem d_O_requests_27 : decode c_O_requests 27 = .ok (.aload_n 2, 1) := by decide +kernel
theorem d_O_requests_28 : decode c_O_requests 28 = .ok (.invokevirtual 115, 3) := by decide +kernel
theorem d_O_requests_31 : decode c_O_requests 31 = .ok (.ifCond .eq 7, 3) := by decide +kernel
theorem d_O_requests_34 : decode c_O_requests 34 = .ok (.iconst (-1), 1) := by decide +kernel
theorem d_O_requests_35 : decode c_O_requests 35 = .ok (.goto 10, 3) := by decide +kernel
theorem d_O_requests_38 : decode c_O_requests 38 = .ok (.aload_n 2, 1) := by decide +kernel
theorem d_O_requests_39 : decode c_O_requests 39 = .ok (.getfield 127, 3) := by decide +kernel
theorem d_O_requests_42 : decode c_O_requests 42 = .ok (.invokestatic 131, 3) := by decide +kernel
theorem d_O_requests_45 : decode c_O_requests 45 = .ok (.ireturn, 1) := by decide +kernel
theorem d_O_reach_0 : decode c_O_reach 0 = .ok (.iload_n 1, 1) := by decide +kernel
theorem d_O_reach_1 : decode c_O_reach 1 = .ok (.invokestatic 39, 3) := by decide +kernel
theorem d_O_reach_4 : decode c_O_reach 4 = .ok (.ifCond .ne 6, 3) := by decide +kernel
theorem d_O_reach_7 : decode c_O_reach 7 = .ok (.bipush (-3), 2) := by decide +kernel
theorem d_O_reach_9 : decode c_O_reach 9 = .ok (.ireturn, 1) := by decide +kernel
theorem d_O_reach_10 : decode c_O_reach 10 = .ok (.aload_n 0, 1) := by decide +kernel
theorem d_O_reach_11 : decode c_O_reach 11 = .ok (.getfield 11, 3) := by decide +kernel
theorem d_O_reach_14 : decode c_O_reach 14 = .ok (.iload_n 1, 1) := by decide +kernel
theorem d_O_reach_15 : decode c_O_reach 15 = .ok (.aaload, 1) := by decide +kernel
theorem d_O_reach_16 : decode c_O_reach 16 = .ok (.astore_n 2, 1) := by decide +kernel
theorem d_O_reach_17 : decode c_O_reach 17 = .ok (.aload_n 2, 1) := by decide +kernel
theorem d_O_reach_18 : decode c_O_reach 18 = .ok (.invokevirtual 43, 3) := by decide +kernel
theorem d_O_reach_21 : decode c_O_reach 21 = .ok (.ifCond .eq 10, 3) := by decide +kernel
theorem d_O_reach_24 : decode c_O_reach 24 = .ok (.aload_n 2, 1) := by decide +kernel
theorem d_O_reach_25 : decode c_O_reach 25 = .ok (.invokevirtual 137, 3) := by decide +kernel
theorem d_O_reach_28 : decode c_O_reach 28 = .ok (.goto 5, 3) := by decide +kernel
theorem d_O_reach_31 : decode c_O_reach 31 = .ok (.bipush (-2), 2) := by decide +kernel
theorem d_O_reach_33 : decode c_O_reach 33 = .ok (.ireturn, 1) := by decide +kernel
theorem d_O_line_0 : decode c_O_line 0 = .ok (.iload_n 1, 1) := by decide +kernel
theorem d_O_line_1 : decode c_O_line 1 = .ok (.invokestatic 39, 3) := by decide +kernel
theorem d_O_line_4 : decode c_O_line 4 = .ok (.ifCond .ne 6, 3) := by decide +kernel
theorem d_O_line_7 : decode c_O_line 7 = .ok (.bipush (-3), 2) := by decide +kernel
theorem d_O_line_9 : decode c_O_line 9 = .ok (.ireturn, 1) := by decide +kernel
theorem d_O_line_10 : decode c_O_line 10 = .ok (.aload_n 0, 1) := by decide +kernel
theorem d_O_line_11 : decode c_O_line 11 = .ok (.getfield 11, 3) := by decide +kernel
theorem d_O_line_14 : decode c_O_line 14 = .ok (.iload_n 1, 1) := by decide +kernel
theorem d_O_line_15 : decode c_O_line 15 = .ok (.aaload, 1) := by decide +kernel
theorem d_O_line_16 : decode c_O_line 16 = .ok (.astore_n 2, 1) := by decide +kernel
theorem d_O_line_17 : decode c_O_line 17 = .ok (.aload_n 2, 1) := by decide +kernel
theorem d_O_line_18 : decode c_O_line 18 = .ok (.invokevirtual 43, 3) := by decide +kernel
theorem d_O_line_21 : decode c_O_line 21 = .ok (.ifCond .eq 10, 3) := by decide +kernel
theorem d_O_line_24 : decode c_O_line 24 = .ok (.aload_n 2, 1) := by decide +kernel
theorem d_O_line_25 : decode c_O_line 25 = .ok (.getfield 82, 3) := by decide +kernel
theorem d_O_line_28 : decode c_O_line 28 = .ok (.goto 5, 3) := by decide +kernel
theorem d_O_line_31 : decode c_O_line 31 = .ok (.bipush (-2), 2) := by decide +kernel
theorem d_O_line_33 : decode c_O_line 33 = .ok (.ireturn, 1) := by decide +kernel
theorem d_O_waiting_0 : decode c_O_waiting 0 = .ok (.iload_n 1, 1) := by decide +kernel
theorem d_O_waiting_1 : decode c_O_waiting 1 = .ok (.invokestatic 39, 3) := by decide +kernel
theorem d_O_waiting_4 : decode c_O_waiting 4 = .ok (.ifCond .ne 6, 3) := by decide +kernel
theorem d_O_waiting_7 : decode c_O_waiting 7 = .ok (.bipush (-3), 2) := by decide +kernel
theorem d_O_waiting_9 : decode c_O_waiting 9 = .ok (.ireturn, 1) := by decide +kernel
theorem d_O_waiting_10 : decode c_O_waiting 10 = .ok (.aload_n 0, 1) := by decide +kernel
theorem d_O_waiting_11 : decode c_O_waiting 11 = .ok (.getfield 11, 3) := by decide +kernel
theorem d_O_waiting_14 : decode c_O_waiting 14 = .ok (.iload_n 1, 1) := by decide +kernel
theorem d_O_waiting_15 : decode c_O_waiting 15 = .ok (.aaload, 1) := by decide +kernel
theorem d_O_waiting_16 : decode c_O_waiting 16 = .ok (.astore_n 2, 1) := by decide +kernel
theorem d_O_waiting_17 : decode c_O_waiting 17 = .ok (.aload_n 2, 1) := by decide +kernel
theorem d_O_waiting_18 : decode c_O_waiting 18 = .ok (.invokevirtual 43, 3) := by decide +kernel
theorem d_O_waiting_21 : decode c_O_waiting 21 = .ok (.ifCond .eq 10, 3) := by decide +kernel
theorem d_O_waiting_24 : decode c_O_waiting 24 = .ok (.aload_n 2, 1) := by decide +kernel
theorem d_O_waiting_25 : decode c_O_waiting 25 = .ok (.getfield 50, 3) := by decide +kernel
theorem d_O_waiting_28 : decode c_O_waiting 28 = .ok (.goto 5, 3) := by decide +kernel
theorem d_O_waiting_31 : decode c_O_waiting 31 = .ok (.bipush (-2), 2) := by decide +kernel
theorem d_O_waiting_33 : decode c_O_waiting 33 = .ok (.ireturn, 1) := by decide +kernel
theorem d_O_delivered_0 : decode c_O_delivered 0 = .ok (.iload_n 1, 1) := by decide +kernel
theorem d_O_delivered_1 : decode c_O_delivered 1 = .ok (.invokestatic 39, 3) := by decide +kernel
theorem d_O_delivered_4 : decode c_O_delivered 4 = .ok (.ifCond .eq 15, 3) := by decide +kernel
theorem d_O_delivered_7 : decode c_O_delivered 7 = .ok (.aload_n 0, 1) := by decide +kernel
theorem d_O_delivered_8 : decode c_O_delivered 8 = .ok (.getfield 11, 3) := by decide +kernel
theorem d_O_delivered_11 : decode c_O_delivered 11 = .ok (.iload_n 1, 1) := by decide +kernel
theorem d_O_delivered_12 : decode c_O_delivered 12 = .ok (.aaload, 1) := by decide +kernel
theorem d_O_delivered_13 : decode c_O_delivered 13 = .ok (.getfield 140, 3) := by decide +kernel
theorem d_O_delivered_16 : decode c_O_delivered 16 = .ok (.goto 5, 3) := by decide +kernel
theorem d_O_delivered_19 : decode c_O_delivered 19 = .ok (.bipush (-3), 2) := by decide +kernel
theorem d_O_delivered_21 : decode c_O_delivered 21 = .ok (.ireturn, 1) := by decide +kernel
theorem d_O_log_0 : decode c_O_log 0 = .ok (.iload_n 1, 1) := by decide +kernel
theorem d_O_log_1 : decode c_O_log 1 = .ok (.invokestatic 39, 3) := by decide +kernel
theorem d_O_log_4 : decode c_O_log 4 = .ok (.ifCond .ne 6, 3) := by decide +kernel
theorem d_O_log_7 : decode c_O_log 7 = .ok (.bipush (-3), 2) := by decide +kernel
theorem d_O_log_9 : decode c_O_log 9 = .ok (.ireturn, 1) := by decide +kernel
theorem d_O_log_10 : decode c_O_log 10 = .ok (.aload_n 0, 1) := by decide +kernel
theorem d_O_log_11 : decode c_O_log 11 = .ok (.getfield 11, 3) := by decide +kernel
theorem d_O_log_14 : decode c_O_log 14 = .ok (.iload_n 1, 1) := by decide +kernel
theorem d_O_log_15 : decode c_O_log 15 = .ok (.aaload, 1) := by decide +kernel
theorem d_O_log_16 : decode c_O_log 16 = .ok (.astore_n 3, 1) := by decide +kernel
theorem d_O_log_17 : decode c_O_log 17 = .ok (.iload_n 2, 1) := by decide +kernel
theorem d_O_log_18 : decode c_O_log 18 = .ok (.ifCond .lt 11, 3) := by decide +kernel
theorem d_O_log_21 : decode c_O_log 21 = .ok (.iload_n 2, 1) := by decide +kernel
theorem d_O_log_22 : decode c_O_log 22 = .ok (.aload_n 3, 1) := by decide +kernel
theorem d_O_log_23 : decode c_O_log 23 = .ok (.getfield 140, 3) := by decide +kernel
theorem d_O_log_26 : decode c_O_log 26 = .ok (.if_icmp .lt 6, 3) := by decide +kernel
theorem d_O_log_29 : decode c_O_log 29 = .ok (.bipush (-3), 2) := by decide +kernel
theorem d_O_log_31 : decode c_O_log 31 = .ok (.ireturn, 1) := by decide +kernel
theorem d_O_log_32 : decode c_O_log 32 = .ok (.aload_n 3, 1) := by decide +kernel
theorem d_O_log_33 : decode c_O_log 33 = .ok (.getfield 143, 3) := by decide +kernel
theorem d_O_log_36 : decode c_O_log 36 = .ok (.iload_n 2, 1) := by decide +kernel
theorem d_O_log_37 : decode c_O_log 37 = .ok (.iaload, 1) := by decide +kernel
theorem d_O_log_38 : decode c_O_log 38 = .ok (.ireturn, 1) := by decide +kernel
theorem d_O_stamp_0 : decode c_O_stamp 0 = .ok (.iload_n 1, 1) := by decide +kernel
theorem d_O_stamp_1 : decode c_O_stamp 1 = .ok (.iconst 1, 1) := by decide +kernel
theorem d_O_stamp_2 : decode c_O_stamp 2 = .ok (.if_icmp .lt 14, 3) := by decide +kernel
theorem d_O_stamp_5 : decode c_O_stamp 5 = .ok (.iload_n 1, 1) := by decide +kernel
theorem d_O_stamp_6 : decode c_O_stamp 6 = .ok (.aload_n 0, 1) := by decide +kernel
theorem d_O_stamp_7 : decode c_O_stamp 7 = .ok (.getfield 28, 3) := by decide +kernel
theorem d_O_stamp_10 : decode c_O_stamp 10 = .ok (.getfield 47, 3) := by decide +kernel
theorem d_O_stamp_13 : decode c_O_stamp 13 = .ok (.if_icmp .le 6, 3) := by decide +kernel
theorem d_O_stamp_16 : decode c_O_stamp 16 = .ok (.bipush (-3), 2) := by decide +kernel
theorem d_O_stamp_18 : decode c_O_stamp 18 = .ok (.ireturn, 1) := by decide +kernel
theorem d_O_stamp_19 : decode c_O_stamp 19 = .ok (.aload_n 0, 1) := by decide +kernel
theorem d_O_stamp_20 : decode c_O_stamp 20 = .ok (.getfield 28, 3) := by decide +kernel
theorem d_O_stamp_23 : decode c_O_stamp 23 = .ok (.getfield 147, 3) := by decide +kernel
theorem d_O_stamp_26 : decode c_O_stamp 26 = .ok (.iload_n 1, 1) := by decide +kernel
theorem d_O_stamp_27 : decode c_O_stamp 27 = .ok (.iaload, 1) := by decide +kernel
theorem d_O_stamp_28 : decode c_O_stamp 28 = .ok (.ireturn, 1) := by decide +kernel
theorem d_O_isNode_0 : decode c_O_isNode 0 = .ok (.iload_n 0, 1) := by decide +kernel
theorem d_O_isNode_1 : decode c_O_isNode 1 = .ok (.ifCond .lt 12, 3) := by decide +kernel
theorem d_O_isNode_4 : decode c_O_isNode 4 = .ok (.iload_n 0, 1) := by decide +kernel
theorem d_O_isNode_5 : decode c_O_isNode 5 = .ok (.iconst 5, 1) := by decide +kernel
theorem d_O_isNode_6 : decode c_O_isNode 6 = .ok (.if_icmp .ge 7, 3) := by decide +kernel
theorem d_O_isNode_9 : decode c_O_isNode 9 = .ok (.iconst 1, 1) := by decide +kernel
theorem d_O_isNode_10 : decode c_O_isNode 10 = .ok (.goto 4, 3) := by decide +kernel
theorem d_O_isNode_13 : decode c_O_isNode 13 = .ok (.iconst 0, 1) := by decide +kernel
theorem d_O_isNode_14 : decode c_O_isNode 14 = .ok (.ireturn, 1) := by decide +kernel
theorem d_O_isUpNode_0 : decode c_O_isUpNode 0 = .ok (.iload_n 1, 1) := by decide +kernel
theorem d_O_isUpNode_1 : decode c_O_isUpNode 1 = .ok (.invokestatic 39, 3) := by decide +kernel
theorem d_O_isUpNode_4 : decode c_O_isUpNode 4 = .ok (.ifCond .eq 19, 3) := by decide +kernel
theorem d_O_isUpNode_7 : decode c_O_isUpNode 7 = .ok (.aload_n 0, 1) := by decide +kernel
theorem d_O_isUpNode_8 : decode c_O_isUpNode 8 = .ok (.getfield 11, 3) := by decide +kernel
theorem d_O_isUpNode_11 : decode c_O_isUpNode 11 = .ok (.iload_n 1, 1) := by decide +kernel
theorem d_O_isUpNode_12 : decode c_O_isUpNode 12 = .ok (.aaload, 1) := by decide +kernel
theorem d_O_isUpNode_13 : decode c_O_isUpNode 13 = .ok (.invokevirtual 43, 3) := by decide +kernel
theorem d_O_isUpNode_16 : decode c_O_isUpNode 16 = .ok (.ifCond .eq 7, 3) := by decide +kernel
theorem d_O_isUpNode_19 : decode c_O_isUpNode 19 = .ok (.iconst 1, 1) := by decide +kernel
theorem d_O_isUpNode_20 : decode c_O_isUpNode 20 = .ok (.goto 4, 3) := by decide +kernel
theorem d_O_isUpNode_23 : decode c_O_isUpNode 23 = .ok (.iconst 0, 1) := by decide +kernel
theorem d_O_isUpNode_24 : decode c_O_isUpNode 24 = .ok (.ireturn, 1) := by decide +kernel
theorem d_O_isIn_0 : decode c_O_isIn 0 = .ok (.iload_n 0, 1) := by decide +kernel
theorem d_O_isIn_1 : decode c_O_isIn 1 = .ok (.iconst 1, 1) := by decide +kernel
theorem d_O_isIn_2 : decode c_O_isIn 2 = .ok (.iload_n 1, 1) := by decide +kernel
theorem d_O_isIn_3 : decode c_O_isIn 3 = .ok (.ishl, 1) := by decide +kernel
theorem d_O_isIn_4 : decode c_O_isIn 4 = .ok (.iand, 1) := by decide +kernel
theorem d_O_isIn_5 : decode c_O_isIn 5 = .ok (.ifCond .eq 7, 3) := by decide +kernel
theorem d_O_isIn_8 : decode c_O_isIn 8 = .ok (.iconst 1, 1) := by decide +kernel
theorem d_O_isIn_9 : decode c_O_isIn 9 = .ok (.goto 4, 3) := by decide +kernel
theorem d_O_isIn_12 : decode c_O_isIn 12 = .ok (.iconst 0, 1) := by decide +kernel
theorem d_O_isIn_13 : decode c_O_isIn 13 = .ok (.ireturn, 1) := by decide +kernel
theorem d_O_hearEachOther_0 : decode c_O_hearEachOther 0 = .ok (.aload_n 0, 1) := by decide +kernel
theorem d_O_hearEachOther_1 : decode c_O_hearEachOther 1 = .ok (.invokevirtual 43, 3) := by decide +kernel
theorem d_O_hearEachOther_4 : decode c_O_hearEachOther 4 = .ok (.ifCond .eq 29, 3) := by decide +kernel
theorem d_O_hearEachOther_7 : decode c_O_hearEachOther 7 = .ok (.aload_n 0, 1) := by decide +kernel
theorem d_O_hearEachOther_8 : decode c_O_hearEachOther 8 = .ok (.getfield 60, 3) := by decide +kernel
theorem d_O_hearEachOther_11 : decode c_O_hearEachOther 11 = .ok (.aload_n 1, 1) := by decide +kernel
theorem d_O_hearEachOther_12 : decode c_O_hearEachOther 12 = .ok (.getfield 60, 3) := by decide +kernel
theorem d_O_hearEachOther_15 : decode c_O_hearEachOther 15 = .ok (.if_acmp .ne 18, 3) := by decide +kernel
theorem d_O_hearEachOther_18 : decode c_O_hearEachOther 18 = .ok (.aload_n 0, 1) := by decide +kernel
theorem d_O_hearEachOther_19 : decode c_O_hearEachOther 19 = .ok (.getfield 96, 3) := by decide +kernel
theorem d_O_hearEachOther_22 : decode c_O_hearEachOther 22 = .ok (.aload_n 1, 1) := by decide +kernel
theorem d_O_hearEachOther_23 : decode c_O_hearEachOther 23 = .ok (.getfield 96, 3) := by decide +kernel
theorem d_O_hearEachOther_26 : decode c_O_hearEachOther 26 = .ok (.if_icmp .ne 7, 3) := by decide +kernel
theorem d_O_hearEachOther_29 : decode c_O_hearEachOther 29 = .ok (.iconst 1, 1) := by decide +kernel
theorem d_O_hearEachOther_30 : decode c_O_hearEachOther 30 = .ok (.goto 4, 3) := by decide +kernel
theorem d_O_hearEachOther_33 : decode c_O_hearEachOther 33 = .ok (.iconst 0, 1) := by decide +kernel
theorem d_O_hearEachOther_34 : decode c_O_hearEachOther 34 = .ok (.ireturn, 1) := by decide +kernel
theorem d_O_broadcastRequests_0 : decode c_O_broadcastRequests 0 = .ok (.iconst 0, 1) := by decide +kernel
theorem d_O_broadcastRequests_1 : decode c_O_broadcastRequests 1 = .ok (.istore_n 3, 1) := by decide +kernel
theorem d_O_broadcastRequests_2 : decode c_O_broadcastRequests 2 = .ok (.iconst 1, 1) := by decide +kernel
theorem d_O_broadcastRequests_3 : decode c_O_broadcastRequests 3 = .ok (.istore 4, 2) := by decide +kernel
theorem d_O_broadcastRequests_5 : decode c_O_broadcastRequests 5 = .ok (.iload 4, 2) := by decide +kernel
theorem d_O_broadcastRequests_7 : decode c_O_broadcastRequests 7 = .ok (.bipush 48, 2) := by decide +kernel
theorem d_O_broadcastRequests_9 : decode c_O_broadcastRequests 9 = .ok (.if_icmp .gt 43, 3) := by decide +kernel
theorem d_O_broadcastRequests_12 : decode c_O_broadcastRequests 12 = .ok (.aload_n 2, 1) := by decide +kernel
theorem d_O_broadcastRequests_13 : decode c_O_broadcastRequests 13 = .ok (.iload 4, 2) := by decide +kernel
theorem d_O_broadcastRequests_15 : decode c_O_broadcastRequests 15 = .ok (.invokevirtual 150, 3) := by decide +kernel
theorem d_O_broadcastRequests_18 : decode c_O_broadcastRequests 18 = .ok (.ifCond .eq 28, 3) := by decide +kernel
theorem d_O_broadcastRequests_21 : decode c_O_broadcastRequests 21 = .ok (.aload_n 1, 1) := by decide +kernel
theorem d_O_broadcastRequests_22 : decode c_O_broadcastRequests 22 = .ok (.iload 4, 2) := by decide +kernel
theorem d_O_broadcastRequests_24 : decode c_O_broadcastRequests 24 = .ok (.invokevirtual 153, 3) := by decide +kernel
theorem d_O_broadcastRequests_27 : decode c_O_broadcastRequests 27 = .ok (.ifCond .eq 19, 3) := by decide +kernel
theorem d_O_broadcastRequests_30 : decode c_O_broadcastRequests 30 = .ok (.aload_n 2, 1) := by decide +kernel
theorem d_O_broadcastRequests_31 : decode c_O_broadcastRequests 31 = .ok (.iload 4, 2) := by decide +kernel
theorem d_O_broadcastRequests_33 : decode c_O_broadcastRequests 33 = .ok (.invokevirtual 156, 3) := by decide +kernel
theorem d_O_broadcastRequests_36 : decode c_O_broadcastRequests 36 = .ok (.aload_n 0, 1) := by decide +kernel
theorem d_O_broadcastRequests_37 : decode c_O_broadcastRequests 37 = .ok (.aload_n 1, 1) := by decide +kernel
theorem d_O_broadcastRequests_38 : decode c_O_broadcastRequests 38 = .ok (.iload 4, 2) := by decide +kernel
theorem d_O_broadcastRequests_40 : decode c_O_broadcastRequests 40 = .ok (.invokevirtual 159, 3) := by decide +kernel
theorem d_O_broadcastRequests_43 : decode c_O_broadcastRequests 43 = .ok (.iinc 3 1, 3) := by decide +kernel
theorem d_O_broadcastRequests_46 : decode c_O_broadcastRequests 46 = .ok (.iinc 4 1, 3) := by decide +kernel
theorem d_O_broadcastRequests_49 : decode c_O_broadcastRequests 49 = .ok (.goto (-44), 3) := by decide +kernel
theorem d_O_broadcastRequests_52 : decode c_O_broadcastRequests 52 = .ok (.iload_n 3, 1) := by decide +kernel
theorem d_O_broadcastRequests_53 : decode c_O_broadcastRequests 53 = .ok (.ireturn, 1) := by decide +kernel
theorem d_O_broadcastNew_0 : decode c_O_broadcastNew 0 = .ok (.iconst 0, 1) := by decide +kernel
theorem d_O_broadcastNew_1 : decode c_O_broadcastNew 1 = .ok (.istore_n 3, 1) := by decide +kernel
theorem d_O_broadcastNew_2 : decode c_O_broadcastNew 2 = .ok (.iload_n 3, 1) := by decide +kernel
theorem d_O_broadcastNew_3 : decode c_O_broadcastNew 3 = .ok (.iconst 2, 1) := by decide +kernel
theorem d_O_broadcastNew_4 : decode c_O_broadcastNew 4 = .ok (.if_icmp .ge 83, 3) := by decide +kernel
theorem d_O_broadcastNew_7 : decode c_O_broadcastNew 7 = .ok (.aload_n 1, 1) := by decide +kernel
theorem d_O_broadcastNew_8 : decode c_O_broadcastNew 8 = .ok (.getfield 50, 3) := by decide +kernel
theorem d_O_broadcastNew_11 : decode c_O_broadcastNew 11 = .ok (.ifCond .le 76, 3) := by decide +kernel
theorem d_O_broadcastNew_14 : decode c_O_broadcastNew 14 = .ok (.aload_n 2, 1) := by decide +kernel
theorem d_O_broadcastNew_15 : decode c_O_broadcastNew 15 = .ok (.getfield 124, 3) := by decide +kernel
theorem d_O_broadcastNew_18 : decode c_O_broadcastNew 18 = .ok (.bipush 48, 2) := by decide +kernel
theorem d_O_broadcastNew_20 : decode c_O_broadcastNew 20 = .ok (.if_icmp .ge 67, 3) := by decide +kernel
theorem d_O_broadcastNew_23 : decode c_O_broadcastNew 23 = .ok (.aload_n 1, 1) := by decide +kernel
theorem d_O_broadcastNew_24 : decode c_O_broadcastNew 24 = .ok (.invokevirtual 163, 3) := by decide +kernel
theorem d_O_broadcastNew_27 : decode c_O_broadcastNew 27 = .ok (.istore 4, 2) := by decide +kernel
theorem d_O_broadcastNew_29 : decode c_O_broadcastNew 29 = .ok (.aload_n 2, 1) := by decide +kernel
theorem d_O_broadcastNew_30 : decode c_O_broadcastNew 30 = .ok (.dup, 1) := by decide +kernel
theorem d_O_broadcastNew_31 : decode c_O_broadcastNew 31 = .ok (.getfield 124, 3) := by decide +kernel
theorem d_O_broadcastNew_34 : decode c_O_broadcastNew 34 = .ok (.iconst 1, 1) := by decide +kernel
theorem d_O_broadcastNew_35 : decode c_O_broadcastNew 35 = .ok (.iadd, 1) := by decide +kernel
theorem d_O_broadcastNew_36 : decode c_O_broadcastNew 36 = .ok (.putfield 124, 3) := by decide +kernel
theorem d_O_broadcastNew_39 : decode c_O_broadcastNew 39 = .ok (.aload_n 2, 1) := by decide +kernel
theorem d_O_broadcastNew_40 : decode c_O_broadcastNew 40 = .ok (.getfield 166, 3) := by decide +kernel
theorem d_O_broadcastNew_43 : decode c_O_broadcastNew 43 = .ok (.aload_n 2, 1) := by decide +kernel
theorem d_O_broadcastNew_44 : decode c_O_broadcastNew 44 = .ok (.getfield 124, 3) := by decide +kernel
theorem d_O_broadcastNew_47 : decode c_O_broadcastNew 47 = .ok (.iload 4, 2) := by decide +kernel
theorem d_O_broadcastNew_49 : decode c_O_broadcastNew 49 = .ok (.iastore, 1) := by decide +kernel
theorem d_O_broadcastNew_50 : decode c_O_broadcastNew 50 = .ok (.aload_n 0, 1) := by decide +kernel
theorem d_O_broadcastNew_51 : decode c_O_broadcastNew 51 = .ok (.getfield 28, 3) := by decide +kernel
theorem d_O_broadcastNew_54 : decode c_O_broadcastNew 54 = .ok (.getfield 147, 3) := by decide +kernel
theorem d_O_broadcastNew_57 : decode c_O_broadcastNew 57 = .ok (.iload 4, 2) := by decide +kernel
theorem d_O_broadcastNew_59 : decode c_O_broadcastNew 59 = .ok (.bipush 64, 2) := by decide +kernel
theorem d_O_broadcastNew_61 : decode c_O_broadcastNew 61 = .ok (.aload_n 2, 1) := by decide +kernel
theorem d_O_broadcastNew_62 : decode c_O_broadcastNew 62 = .ok (.getfield 118, 3) := by decide +kernel
theorem d_O_broadcastNew_65 : decode c_O_broadcastNew 65 = .ok (.imul, 1) := by decide +kernel
theorem d_O_broadcastNew_66 : decode c_O_broadcastNew 66 = .ok (.aload_n 2, 1) := by decide +kernel
theorem d_O_broadcastNew_67 : decode c_O_broadcastNew 67 = .ok (.getfield 124, 3) := by decide +kernel
theorem d_O_broadcastNew_70 : decode c_O_broadcastNew 70 = .ok (.iadd, 1) := by decide +kernel
theorem d_O_broadcastNew_71 : decode c_O_broadcastNew 71 = .ok (.iastore, 1) := by decide +kernel
theorem d_O_broadcastNew_72 : decode c_O_broadcastNew 72 = .ok (.aload_n 0, 1) := by decide +kernel
theorem d_O_broadcastNew_73 : decode c_O_broadcastNew 73 = .ok (.aload_n 1, 1) := by decide +kernel
theorem d_O_broadcastNew_74 : decode c_O_broadcastNew 74 = .ok (.aload_n 2, 1) := by decide +kernel
theorem d_O_broadcastNew_75 : decode c_O_broadcastNew 75 = .ok (.getfield 124, 3) := by decide +kernel
theorem d_O_broadcastNew_78 : decode c_O_broadcastNew 78 = .ok (.invokevirtual 159, 3) := by decide +kernel
theorem d_O_broadcastNew_81 : decode c_O_broadcastNew 81 = .ok (.iinc 3 1, 3) := by decide +kernel
theorem d_O_broadcastNew_84 : decode c_O_broadcastNew 84 = .ok (.goto (-82), 3) := by decide +kernel
theorem d_O_broadcastNew_87 : decode c_O_broadcastNew 87 = .ok (.iload_n 3, 1) := by decide +kernel
theorem d_O_broadcastNew_88 : decode c_O_broadcastNew 88 = .ok (.ireturn, 1) := by decide +kernel
theorem d_O_broadcast_0 : decode c_O_broadcast 0 = .ok (.aload_n 1, 1) := by decide +kernel
theorem d_O_broadcast_1 : decode c_O_broadcast 1 = .ok (.iload_n 2, 1) := by decide +kernel
theorem d_O_broadcast_2 : decode c_O_broadcast 2 = .ok (.invokevirtual 169, 3) := by decide +kernel
theorem d_O_broadcast_5 : decode c_O_broadcast 5 = .ok (.aload_n 0, 1) := by decide +kernel
theorem d_O_broadcast_6 : decode c_O_broadcast 6 = .ok (.getfield 11, 3) := by decide +kernel
theorem d_O_broadcast_9 : decode c_O_broadcast 9 = .ok (.astore_n 3, 1) := by decide +kernel
theorem d_O_broadcast_10 : decode c_O_broadcast 10 = .ok (.aload_n 3, 1) := by decide +kernel
theorem d_O_broadcast_11 : decode c_O_broadcast 11 = .ok (.arraylength, 1) := by decide +kernel
theorem d_O_broadcast_12 : decode c_O_broadcast 12 = .ok (.istore 4, 2) := by decide +kernel
theorem d_O_broadcast_14 : decode c_O_broadcast 14 = .ok (.iconst 0, 1) := by decide +kernel
theorem d_O_broadcast_15 : decode c_O_broadcast 15 = .ok (.istore 5, 2) := by decide +kernel
theorem d_O_broadcast_17 : decode c_O_broadcast 17 = .ok (.iload 5, 2) := by decide +kernel
theorem d_O_broadcast_19 : decode c_O_broadcast 19 = .ok (.iload 4, 2) := by decide +kernel
theorem d_O_broadcast_21 : decode c_O_broadcast 21 = .ok (.if_icmp .ge 36, 3) := by decide +kernel
theorem d_O_broadcast_24 : decode c_O_broadcast 24 = .ok (.aload_n 3, 1) := by decide +kernel
theorem d_O_broadcast_25 : decode c_O_broadcast 25 = .ok (.iload 5, 2) := by decide +kernel
theorem d_O_broadcast_27 : decode c_O_broadcast 27 = .ok (.aaload, 1) := by decide +kernel
theorem d_O_broadcast_28 : decode c_O_broadcast 28 = .ok (.astore 6, 2) := by decide +kernel
theorem d_O_broadcast_30 : decode c_O_broadcast 30 = .ok (.aload 6, 2) := by decide +kernel
theorem d_O_broadcast_32 : decode c_O_broadcast 32 = .ok (.aload_n 1, 1) := by decide +kernel
theorem d_O_broadcast_33 : decode c_O_broadcast 33 = .ok (.if_acmp .eq 18, 3) := by decide +kernel
theorem d_O_broadcast_36 : decode c_O_broadcast 36 = .ok (.aload_n 1, 1) := by decide +kernel
theorem d_O_broadcast_37 : decode c_O_broadcast 37 = .ok (.aload 6, 2) := by decide +kernel
theorem d_O_broadcast_39 : decode c_O_broadcast 39 = .ok (.invokestatic 172, 3) := by decide +kernel
theorem d_O_broadcast_42 : decode c_O_broadcast 42 = .ok (.ifCond .eq 9, 3) := by decide +kernel
theorem d_O_broadcast_45 : decode c_O_broadcast 45 = .ok (.aload 6, 2) := by decide +kernel
theorem d_O_broadcast_47 : decode c_O_broadcast 47 = .ok (.iload_n 2, 1) := by decide +kernel
theorem d_O_broadcast_48 : decode c_O_broadcast 48 = .ok (.invokevirtual 176, 3) := by decide +kernel
theorem d_O_broadcast_51 : decode c_O_broadcast 51 = .ok (.iinc 5 1, 3) := by decide +kernel
theorem d_O_broadcast_54 : decode c_O_broadcast 54 = .ok (.goto (-37), 3) := by decide +kernel
theorem d_O_broadcast_57 : decode c_O_broadcast 57 = .ok (.return_, 1) := by decide +kernel
theorem d_O_deliverInRing_0 : decode c_O_deliverInRing 0 = .ok (.aload_n 0, 1) := by decide +kernel
theorem d_O_deliverInRing_1 : decode c_O_deliverInRing 1 = .ok (.getfield 11, 3) := by decide +kernel
theorem d_O_deliverInRing_4 : decode c_O_deliverInRing 4 = .ok (.astore_n 2, 1) := by decide +kernel
theorem d_O_deliverInRing_5 : decode c_O_deliverInRing 5 = .ok (.aload_n 2, 1) := by decide +kernel
theorem d_O_deliverInRing_6 : decode c_O_deliverInRing 6 = .ok (.arraylength, 1) := by decide +kernel
theorem d_O_deliverInRing_7 : decode c_O_deliverInRing 7 = .ok (.istore_n 3, 1) := by decide +kernel
theorem d_O_deliverInRing_8 : decode c_O_deliverInRing 8 = .ok (.iconst 0, 1) := by decide +kernel
theorem d_O_deliverInRing_9 : decode c_O_deliverInRing 9 = .ok (.istore 4, 2) := by decide +kernel
theorem d_O_deliverInRing_11 : decode c_O_deliverInRing 11 = .ok (.iload 4, 2) := by decide +kernel
theorem d_O_deliverInRing_13 : decode c_O_deliverInRing 13 = .ok (.iload_n 3, 1) := by decide +kernel
theorem d_O_deliverInRing_14 : decode c_O_deliverInRing 14 = .ok (.if_icmp .ge 31, 3) := by decide +kernel
theorem d_O_deliverInRing_17 : decode c_O_deliverInRing 17 = .ok (.aload_n 2, 1) := by decide +kernel
theorem d_O_deliverInRing_18 : decode c_O_deliverInRing 18 = .ok (.iload 4, 2) := by decide +kernel
theorem d_O_deliverInRing_20 : decode c_O_deliverInRing 20 = .ok (.aaload, 1) := by decide +kernel
theorem d_O_deliverInRing_21 : decode c_O_deliverInRing 21 = .ok (.astore 5, 2) := by decide +kernel
theorem d_O_deliverInRing_23 : decode c_O_deliverInRing 23 = .ok (.aload 5, 2) := by decide +kernel
theorem d_O_deliverInRing_25 : decode c_O_deliverInRing 25 = .ok (.getfield 60, 3) := by decide +kernel
theorem d_O_deliverInRing_28 : decode c_O_deliverInRing 28 = .ok (.aload_n 1, 1) := by decide +kernel
theorem d_O_deliverInRing_29 : decode c_O_deliverInRing 29 = .ok (.if_acmp .ne 10, 3) := by decide +kernel
theorem d_O_deliverInRing_32 : decode c_O_deliverInRing 32 = .ok (.aload_n 0, 1) := by decide +kernel
theorem d_O_deliverInRing_33 : decode c_O_deliverInRing 33 = .ok (.aload 5, 2) := by decide +kernel
theorem d_O_deliverInRing_35 : decode c_O_deliverInRing 35 = .ok (.aload_n 1, 1) := by decide +kernel
theorem d_O_deliverInRing_36 : decode c_O_deliverInRing 36 = .ok (.invokevirtual 179, 3) := by decide +kernel
theorem d_O_deliverInRing_39 : decode c_O_deliverInRing 39 = .ok (.iinc 4 1, 3) := by decide +kernel
theorem d_O_deliverInRing_42 : decode c_O_deliverInRing 42 = .ok (.goto (-31), 3) := by decide +kernel
theorem d_O_deliverInRing_45 : decode c_O_deliverInRing 45 = .ok (.return_, 1) := by decide +kernel
theorem d_O_deliverRegular_0 : decode c_O_deliverRegular 0 = .ok (.aload_n 1, 1) := by decide +kernel
theorem d_O_deliverRegular_1 : decode c_O_deliverRegular 1 = .ok (.getfield 182, 3) := by decide +kernel
theorem d_O_deliverRegular_4 : decode c_O_deliverRegular 4 = .ok (.iconst 1, 1) := by decide +kernel
theorem d_O_deliverRegular_5 : decode c_O_deliverRegular 5 = .ok (.iadd, 1) := by decide +kernel
theorem d_O_deliverRegular_6 : decode c_O_deliverRegular 6 = .ok (.istore_n 3, 1) := by decide +kernel
theorem d_O_deliverRegular_7 : decode c_O_deliverRegular 7 = .ok (.iload_n 3, 1) := by decide +kernel
theorem d_O_deliverRegular_8 : decode c_O_deliverRegular 8 = .ok (.bipush 48, 2) := by decide +kernel
theorem d_O_deliverRegular_10 : decode c_O_deliverRegular 10 = .ok (.if_icmp .gt 37, 3) := by decide +kernel
theorem d_O_deliverRegular_13 : decode c_O_deliverRegular 13 = .ok (.aload_n 0, 1) := by decide +kernel
theorem d_O_deliverRegular_14 : decode c_O_deliverRegular 14 = .ok (.aload_n 1, 1) := by decide +kernel
theorem d_O_deliverRegular_15 : decode c_O_deliverRegular 15 = .ok (.aload_n 2, 1) := by decide +kernel
theorem d_O_deliverRegular_16 : decode c_O_deliverRegular 16 = .ok (.iload_n 3, 1) := by decide +kernel
theorem d_O_deliverRegular_17 : decode c_O_deliverRegular 17 = .ok (.invokevirtual 185, 3) := by decide +kernel
theorem d_O_deliverRegular_20 : decode c_O_deliverRegular 20 = .ok (.ifCond .ne 4, 3) := by decide +kernel
theorem d_O_deliverRegular_23 : decode c_O_deliverRegular 23 = .ok (.return_, 1) := by decide +kernel
theorem d_O_deliverRegular_24 : decode c_O_deliverRegular 24 = .ok (.aload_n 1, 1) := by decide +kernel
theorem d_O_deliverRegular_25 : decode c_O_deliverRegular 25 = .ok (.iconst 2, 1) := by decide +kernel
theorem d_O_deliverRegular_26 : decode c_O_deliverRegular 26 = .ok (.aload_n 2, 1) := by decide +kernel
theorem d_O_deliverRegular_27 : decode c_O_deliverRegular 27 = .ok (.getfield 166, 3) := by decide +kernel
theorem d_O_deliverRegular_30 : decode c_O_deliverRegular 30 = .ok (.iload_n 3, 1) := by decide +kernel
theorem d_O_deliverRegular_31 : decode c_O_deliverRegular 31 = .ok (.iaload, 1) := by decide +kernel
theorem d_O_deliverRegular_32 : decode c_O_deliverRegular 32 = .ok (.imul, 1) := by decide +kernel
theorem d_O_deliverRegular_33 : decode c_O_deliverRegular 33 = .ok (.invokevirtual 189, 3) := by decide +kernel
theorem d_O_deliverRegular_36 : decode c_O_deliverRegular 36 = .ok (.aload_n 1, 1) := by decide +kernel
theorem d_O_deliverRegular_37 : decode c_O_deliverRegular 37 = .ok (.iload_n 3, 1) := by decide +kernel
theorem d_O_deliverRegular_38 : decode c_O_deliverRegular 38 = .ok (.putfield 182, 3) := by decide +kernel
theorem d_O_deliverRegular_41 : decode c_O_deliverRegular 41 = .ok (.iinc 3 1, 3) := by decide +kernel
theorem d_O_deliverRegular_44 : decode c_O_deliverRegular 44 = .ok (.goto (-37), 3) := by decide +kernel
theorem d_O_deliverRegular_47 : decode c_O_deliverRegular 47 = .ok (.return_, 1) := by decide +kernel
theorem d_O_isDeliverable_0 : decode c_O_isDeliverable 0 = .ok (.aload_n 1, 1) := by decide +kernel
theorem d_O_isDeliverable_1 : decode c_O_isDeliverable 1 = .ok (.iload_n 3, 1) := by decide +kernel
theorem d_O_isDeliverable_2 : decode c_O_isDeliverable 2 = .ok (.invokevirtual 153, 3) := by decide +kernel
theorem d_O_isDeliverable_5 : decode c_O_isDeliverable 5 = .ok (.ifCond .eq 32, 3) := by decide +kernel
theorem d_O_isDeliverable_8 : decode c_O_isDeliverable 8 = .ok (.iload_n 3, 1) := by decide +kernel
theorem d_O_isDeliverable_9 : decode c_O_isDeliverable 9 = .ok (.aload_n 1, 1) := by decide +kernel
theorem d_O_isDeliverable_10 : decode c_O_isDeliverable 10 = .ok (.getfield 82, 3) := by decide +kernel
theorem d_O_isDeliverable_13 : decode c_O_isDeliverable 13 = .ok (.if_icmp .le 20, 3) := by decide +kernel
theorem d_O_isDeliverable_16 : decode c_O_isDeliverable 16 = .ok (.aload_n 0, 1) := by decide +kernel
theorem d_O_isDeliverable_17 : decode c_O_isDeliverable 17 = .ok (.getfield 28, 3) := by decide +kernel
theorem d_O_isDeliverable_20 : decode c_O_isDeliverable 20 = .ok (.getfield 192, 3) := by decide +kernel
theorem d_O_isDeliverable_23 : decode c_O_isDeliverable 23 = .ok (.aload_n 2, 1) := by decide +kernel
theorem d_O_isDeliverable_24 : decode c_O_isDeliverable 24 = .ok (.getfield 166, 3) := by decide +kernel
theorem d_O_isDeliverable_27 : decode c_O_isDeliverable 27 = .ok (.iload_n 3, 1) := by decide +kernel
theorem d_O_isDeliverable_28 : decode c_O_isDeliverable 28 = .ok (.iaload, 1) := by decide +kernel
theorem d_O_isDeliverable_29 : decode c_O_isDeliverable 29 = .ok (.baload, 1) := by decide +kernel
theorem d_O_isDeliverable_30 : decode c_O_isDeliverable 30 = .ok (.ifCond .ne 7, 3) := by decide +kernel
theorem d_O_isDeliverable_33 : decode c_O_isDeliverable 33 = .ok (.iconst 1, 1) := by decide +kernel
theorem d_O_isDeliverable_34 : decode c_O_isDeliverable 34 = .ok (.goto 4, 3) := by decide +kernel
theorem d_O_isDeliverable_37 : decode c_O_isDeliverable 37 = .ok (.iconst 0, 1) := by decide +kernel
theorem d_O_isDeliverable_38 : decode c_O_isDeliverable 38 = .ok (.ireturn, 1) := by decide +kernel
theorem d_O_hasStranger_0 : decode c_O_hasStranger 0 = .ok (.aload_n 0, 1) := by decide +kernel
theorem d_O_hasStranger_1 : decode c_O_hasStranger 1 = .ok (.getfield 11, 3) := by decide +kernel
theorem d_O_hasStranger_4 : decode c_O_hasStranger 4 = .ok (.astore_n 2, 1) := by decide +kernel
theorem d_O_hasStranger_5 : decode c_O_hasStranger 5 = .ok (.aload_n 2, 1) := by decide +kernel
theorem d_O_hasStranger_6 : decode c_O_hasStranger 6 = .ok (.arraylength, 1) := by decide +kernel
theorem d_O_hasStranger_7 : decode c_O_hasStranger 7 = .ok (.istore_n 3, 1) := by decide +kernel
theorem d_O_hasStranger_8 : decode c_O_hasStranger 8 = .ok (.iconst 0, 1) := by decide +kernel
theorem d_O_hasStranger_9 : decode c_O_hasStranger 9 = .ok (.istore 4, 2) := by decide +kernel
theorem d_O_hasStranger_11 : decode c_O_hasStranger 11 = .ok (.iload 4, 2) := by decide +kernel
theorem d_O_hasStranger_13 : decode c_O_hasStranger 13 = .ok (.iload_n 3, 1) := by decide +kernel
theorem d_O_hasStranger_14 : decode c_O_hasStranger 14 = .ok (.if_icmp .ge 49, 3) := by decide +kernel
theorem d_O_hasStranger_17 : decode c_O_hasStranger 17 = .ok (.aload_n 2, 1) := by decide +kernel
theorem d_O_hasStranger_18 : decode c_O_hasStranger 18 = .ok (.iload 4, 2) := by decide +kernel
theorem d_O_hasStranger_20 : decode c_O_hasStranger 20 = .ok (.aaload, 1) := by decide +kernel
theorem d_O_hasStranger_21 : decode c_O_hasStranger 21 = .ok (.astore 5, 2) := by decide +kernel
theorem d_O_hasStranger_23 : decode c_O_hasStranger 23 = .ok (.aload 5, 2) := by decide +kernel
theorem d_O_hasStranger_25 : decode c_O_hasStranger 25 = .ok (.invokevirtual 43, 3) := by decide +kernel
theorem d_O_hasStranger_28 : decode c_O_hasStranger 28 = .ok (.ifCond .eq 29, 3) := by decide +kernel
theorem d_O_hasStranger_31 : decode c_O_hasStranger 31 = .ok (.aload 5, 2) := by decide +kernel
theorem d_O_hasStranger_33 : decode c_O_hasStranger 33 = .ok (.getfield 96, 3) := by decide +kernel
theorem d_O_hasStranger_36 : decode c_O_hasStranger 36 = .ok (.aload_n 1, 1) := by decide +kernel
theorem d_O_hasStranger_37 : decode c_O_hasStranger 37 = .ok (.getfield 96, 3) := by decide +kernel
theorem d_O_hasStranger_40 : decode c_O_hasStranger 40 = .ok (.if_icmp .ne 17, 3) := by decide +kernel
theorem d_O_hasStranger_43 : decode c_O_hasStranger 43 = .ok (.aload 5, 2) := by decide +kernel
theorem d_O_hasStranger_45 : decode c_O_hasStranger 45 = .ok (.getfield 60, 3) := by decide +kernel
theorem d_O_hasStranger_48 : decode c_O_hasStranger 48 = .ok (.aload_n 1, 1) := by decide +kernel
theorem d_O_hasStranger_49 : decode c_O_hasStranger 49 = .ok (.getfield 60, 3) := by decide +kernel
theorem d_O_hasStranger_52 : decode c_O_hasStranger 52 = .ok (.if_acmp .eq 5, 3) := by decide +kernel
theorem d_O_hasStranger_55 : decode c_O_hasStranger 55 = .ok (.iconst 1, 1) := by decide +kernel
theorem d_O_hasStranger_56 : decode c_O_hasStranger 56 = .ok (.ireturn, 1) := by decide +kernel
theorem d_O_hasStranger_57 : decode c_O_hasStranger 57 = .ok (.iinc 4 1, 3) := by decide +kernel
theorem d_O_hasStranger_60 : decode c_O_hasStranger 60 = .ok (.goto (-49), 3) := by decide +kernel
theorem d_O_hasStranger_63 : decode c_O_hasStranger 63 = .ok (.iconst 0, 1) := by decide +kernel
theorem d_O_hasStranger_64 : decode c_O_hasStranger 64 = .ok (.ireturn, 1) := by decide +kernel
theorem d_O_passToken_0 : decode c_O_passToken 0 = .ok (.aload_n 2, 1) := by decide +kernel
theorem d_O_passToken_1 : decode c_O_passToken 1 = .ok (.aload_n 1, 1) := by decide +kernel
theorem d_O_passToken_2 : decode c_O_passToken 2 = .ok (.getfield 196, 3) := by decide +kernel
theorem d_O_passToken_5 : decode c_O_passToken 5 = .ok (.invokevirtual 197, 3) := by decide +kernel
theorem d_O_passToken_8 : decode c_O_passToken 8 = .ok (.istore_n 3, 1) := by decide +kernel
theorem d_O_passToken_9 : decode c_O_passToken 9 = .ok (.aload_n 2, 1) := by decide +kernel
theorem d_O_passToken_10 : decode c_O_passToken 10 = .ok (.aload_n 1, 1) := by decide +kernel
theorem d_O_passToken_11 : decode c_O_passToken 11 = .ok (.aload_n 0, 1) := by decide +kernel
theorem d_O_passToken_12 : decode c_O_passToken 12 = .ok (.getfield 11, 3) := by decide +kernel
theorem d_O_passToken_15 : decode c_O_passToken 15 = .ok (.iload_n 3, 1) := by decide +kernel
theorem d_O_passToken_16 : decode c_O_passToken 16 = .ok (.aaload, 1) := by decide +kernel
theorem d_O_passToken_17 : decode c_O_passToken 17 = .ok (.invokestatic 172, 3) := by decide +kernel
theorem d_O_passToken_20 : decode c_O_passToken 20 = .ok (.ifCond .eq 7, 3) := by decide +kernel
theorem d_O_passToken_23 : decode c_O_passToken 23 = .ok (.iload_n 3, 1) := by decide +kernel
theorem d_O_passToken_24 : decode c_O_passToken 24 = .ok (.goto 4, 3) := by decide +kernel
theorem d_O_passToken_27 : decode c_O_passToken 27 = .ok (.iconst (-1), 1) := by decide +kernel
theorem d_O_passToken_28 : decode c_O_passToken 28 = .ok (.putfield 64, 3) := by decide +kernel
theorem d_O_passToken_31 : decode c_O_passToken 31 = .ok (.return_, 1) := by decide +kernel
theorem d_O_formAnew_0 : decode c_O_formAnew 0 = .ok (.aload_n 0, 1) := by decide +kernel
theorem d_O_formAnew_1 : decode c_O_formAnew 1 = .ok (.iload_n 1, 1) := by decide +kernel
theorem d_O_formAnew_2 : decode c_O_formAnew 2 = .ok (.invokevirtual 201, 3) := by decide +kernel
theorem d_O_formAnew_5 : decode c_O_formAnew 5 = .ok (.istore_n 2, 1) := by decide +kernel
theorem d_O_formAnew_6 : decode c_O_formAnew 6 = .ok (.aload_n 0, 1) := by decide +kernel
theorem d_O_formAnew_7 : decode c_O_formAnew 7 = .ok (.getfield 20, 3) := by decide +kernel
theorem d_O_formAnew_10 : decode c_O_formAnew 10 = .ok (.astore_n 3, 1) := by decide +kernel
theorem d_O_formAnew_11 : decode c_O_formAnew 11 = .ok (.aload_n 3, 1) := by decide +kernel
theorem d_O_formAnew_12 : decode c_O_formAnew 12 = .ok (.arraylength, 1) := by decide +kernel
theorem d_O_formAnew_13 : decode c_O_formAnew 13 = .ok (.istore 4, 2) := by decide +kernel
theorem d_O_formAnew_15 : decode c_O_formAnew 15 = .ok (.iconst 0, 1) := by decide +kernel
theorem d_O_formAnew_16 : decode c_O_formAnew 16 = .ok (.istore 5, 2) := by decide +kernel
theorem d_O_formAnew_18 : decode c_O_formAnew 18 = .ok (.iload 5, 2) := by decide +kernel
theorem d_O_formAnew_20 : decode c_O_formAnew 20 = .ok (.iload 4, 2) := by decide +kernel
theorem d_O_formAnew_22 : decode c_O_formAnew 22 = .ok (.if_icmp .ge 38, 3) := by decide +kernel
theorem d_O_formAnew_25 : decode c_O_formAnew 25 = .ok (.aload_n 3, 1) := by decide +kernel
theorem d_O_formAnew_26 : decode c_O_formAnew 26 = .ok (.iload 5, 2) := by decide +kernel
theorem d_O_formAnew_28 : decode c_O_formAnew 28 = .ok (.aaload, 1) := by decide +kernel
theorem d_O_formAnew_29 : decode c_O_formAnew 29 = .ok (.astore 6, 2) := by decide +kernel
theorem d_O_formAnew_31 : decode c_O_formAnew 31 = .ok (.aload_n 0, 1) := by decide +kernel
theorem d_O_formAnew_32 : decode c_O_formAnew 32 = .ok (.aload 6, 2) := by decide +kernel
theorem d_O_formAnew_34 : decode c_O_formAnew 34 = .ok (.invokevirtual 204, 3) := by decide +kernel
theorem d_O_formAnew_37 : decode c_O_formAnew 37 = .ok (.iload_n 2, 1) := by decide +kernel
theorem d_O_formAnew_38 : decode c_O_formAnew 38 = .ok (.iand, 1) := by decide +kernel
theorem d_O_formAnew_39 : decode c_O_formAnew 39 = .ok (.istore 7, 2) := by decide +kernel
theorem d_O_formAnew_41 : decode c_O_formAnew 41 = .ok (.iload 7, 2) := by decide +kernel
theorem d_O_formAnew_43 : decode c_O_formAnew 43 = .ok (.ifCond .eq 11, 3) := by decide +kernel
theorem d_O_formAnew_46 : decode c_O_formAnew 46 = .ok (.aload_n 0, 1) := by decide +kernel
theorem d_O_formAnew_47 : decode c_O_formAnew 47 = .ok (.aload 6, 2) := by decide +kernel
theorem d_O_formAnew_49 : decode c_O_formAnew 49 = .ok (.iload 7, 2) := by decide +kernel
theorem d_O_formAnew_51 : decode c_O_formAnew 51 = .ok (.invokevirtual 208, 3) := by decide +kernel
theorem d_O_formAnew_54 : decode c_O_formAnew 54 = .ok (.iinc 5 1, 3) := by decide +kernel
theorem d_O_formAnew_57 : decode c_O_formAnew 57 = .ok (.goto (-39), 3) := by decide +kernel
theorem d_O_formAnew_60 : decode c_O_formAnew 60 = .ok (.aload_n 0, 1) := by decide +kernel
theorem d_O_formAnew_61 : decode c_O_formAnew 61 = .ok (.iload_n 2, 1) := by decide +kernel
theorem d_O_formAnew_62 : decode c_O_formAnew 62 = .ok (.invokevirtual 36, 3) := by decide +kernel
theorem d_O_formAnew_65 : decode c_O_formAnew 65 = .ok (.return_, 1) := by decide +kernel
theorem d_O_deliverLeftOver_0 : decode c_O_deliverLeftOver 0 = .ok (.lconst 0, 1) := by decide +kernel
theorem d_O_deliverLeftOver_1 : decode c_O_deliverLeftOver 1 = .ok (.lstore_n 3, 1) := by decide +kernel
theorem d_O_deliverLeftOver_2 : decode c_O_deliverLeftOver 2 = .ok (.iconst 0, 1) := by decide +kernel
theorem d_O_deliverLeftOver_3 : decode c_O_deliverLeftOver 3 = .ok (.istore 5, 2) := by decide +kernel
theorem d_O_deliverLeftOver_5 : decode c_O_deliverLeftOver 5 = .ok (.iconst 0, 1) := by decide +kernel
theorem d_O_deliverLeftOver_6 : decode c_O_deliverLeftOver 6 = .ok (.istore 6, 2) := by decide +kernel
theorem d_O_deliverLeftOver_8 : decode c_O_deliverLeftOver 8 = .ok (.iload 6, 2) := by decide +kernel
theorem d_O_deliverLeftOver_10 : decode c_O_deliverLeftOver 10 = .ok (.iconst 5, 1) := by decide +kernel
theorem d_O_deliverLeftOver_11 : decode c_O_deliverLeftOver 11 = .ok (.if_icmp .ge 48, 3) := by decide +kernel
theorem d_O_deliverLeftOver_14 : decode c_O_deliverLeftOver 14 = .ok (.iload_n 2, 1) := by decide +kernel
theorem d_O_deliverLeftOver_15 : decode c_O_deliverLeftOver 15 = .ok (.iload 6, 2) := by decide +kernel
theorem d_O_deliverLeftOver_17 : decode c_O_deliverLeftOver 17 = .ok (.invokestatic 212, 3) := by decide +kernel
theorem d_O_deliverLeftOver_20 : decode c_O_deliverLeftOver 20 = .ok (.ifCond .eq 33, 3) := by decide +kernel
theorem d_O_deliverLeftOver_23 : decode c_O_deliverLeftOver 23 = .ok (.lload_n 3, 1) := by decide +kernel
theorem d_O_deliverLeftOver_24 : decode c_O_deliverLeftOver 24 = .ok (.aload_n 0, 1) := by decide +kernel
theorem d_O_deliverLeftOver_25 : decode c_O_deliverLeftOver 25 = .ok (.getfield 11, 3) := by decide +kernel
theorem d_O_deliverLeftOver_28 : decode c_O_deliverLeftOver 28 = .ok (.iload 6, 2) := by decide +kernel
theorem d_O_deliverLeftOver_30 : decode c_O_deliverLeftOver 30 = .ok (.aaload, 1) := by decide +kernel
theorem d_O_deliverLeftOver_31 : decode c_O_deliverLeftOver 31 = .ok (.getfield 216, 3) := by decide +kernel
theorem d_O_deliverLeftOver_34 : decode c_O_deliverLeftOver 34 = .ok (.lor, 1) := by decide +kernel
theorem d_O_deliverLeftOver_35 : decode c_O_deliverLeftOver 35 = .ok (.lstore_n 3, 1) := by decide +kernel
theorem d_O_deliverLeftOver_36 : decode c_O_deliverLeftOver 36 = .ok (.iload 5, 2) := by decide +kernel
theorem d_O_deliverLeftOver_38 : decode c_O_deliverLeftOver 38 = .ok (.aload_n 0, 1) := by decide +kernel
theorem d_O_deliverLeftOver_39 : decode c_O_deliverLeftOver 39 = .ok (.getfield 11, 3) := by decide +kernel
theorem d_O_deliverLeftOver_42 : decode c_O_deliverLeftOver 42 = .ok (.iload 6, 2) := by decide +kernel
theorem d_O_deliverLeftOver_44 : decode c_O_deliverLeftOver 44 = .ok (.aaload, 1) := by decide +kernel
theorem d_O_deliverLeftOver_45 : decode c_O_deliverLeftOver 45 = .ok (.getfield 82, 3) := by decide +kernel
theorem d_O_deliverLeftOver_48 : decode c_O_deliverLeftOver 48 = .ok (.invokestatic 219, 3) := by decide +kernel
theorem d_O_deliverLeftOver_51 : decode c_O_deliverLeftOver 51 = .ok (.istore 5, 2) := by decide +kernel
theorem d_O_deliverLeftOver_53 : decode c_O_deliverLeftOver 53 = .ok (.iinc 6 1, 3) := by decide +kernel
theorem d_O_deliverLeftOver_56 : decode c_O_deliverLeftOver 56 = .ok (.goto (-48), 3) := by decide +kernel
theorem d_O_deliverLeftOver_59 : decode c_O_deliverLeftOver 59 = .ok (.iconst 0, 1) := by decide +kernel
theorem d_O_deliverLeftOver_60 : decode c_O_deliverLeftOver 60 = .ok (.istore 6, 2) := by decide +kernel
theorem d_O_deliverLeftOver_62 : decode c_O_deliverLeftOver 62 = .ok (.iload 6, 2) := by decide +kernel
theorem d_O_deliverLeftOver_64 : decode c_O_deliverLeftOver 64 = .ok (.iconst 5, 1) := by decide +kernel
theorem d_O_deliverLeftOver_65 : decode c_O_deliverLeftOver 65 = .ok (.if_icmp .ge 66, 3) := by decide +kernel
theorem d_O_deliverLeftOver_68 : decode c_O_deliverLeftOver 68 = .ok (.iload_n 2, 1) := by decide +kernel
theorem d_O_deliverLeftOver_69 : decode c_O_deliverLeftOver 69 = .ok (.iload 6, 2) := by decide +kernel
theorem d_O_deliverLeftOver_71 : decode c_O_deliverLeftOver 71 = .ok (.invokestatic 212, 3) := by decide +kernel
theorem d_O_deliverLeftOver_74 : decode c_O_deliverLeftOver 74 = .ok (.ifCond .eq 51, 3) := by decide +kernel
theorem d_O_deliverLeftOver_77 : decode c_O_deliverLeftOver 77 = .ok (.aload_n 0, 1) := by decide +kernel
theorem d_O_deliverLeftOver_78 : decode c_O_deliverLeftOver 78 = .ok (.getfield 11, 3) := by decide +kernel
theorem d_O_deliverLeftOver_81 : decode c_O_deliverLeftOver 81 = .ok (.iload 6, 2) := by decide +kernel
theorem d_O_deliverLeftOver_83 : decode c_O_deliverLeftOver 83 = .ok (.aaload, 1) := by decide +kernel
theorem d_O_deliverLeftOver_84 : decode c_O_deliverLeftOver 84 = .ok (.lload_n 3, 1) := by decide +kernel
theorem d_O_deliverLeftOver_85 : decode c_O_deliverLeftOver 85 = .ok (.putfield 216, 3) := by decide +kernel
theorem d_O_deliverLeftOver_88 : decode c_O_deliverLeftOver 88 = .ok (.aload_n 0, 1) := by decide +kernel
theorem d_O_deliverLeftOver_89 : decode c_O_deliverLeftOver 89 = .ok (.getfield 11, 3) := by decide +kernel
theorem d_O_deliverLeftOver_92 : decode c_O_deliverLeftOver 92 = .ok (.iload 6, 2) := by decide +kernel
theorem d_O_deliverLeftOver_94 : decode c_O_deliverLeftOver 94 = .ok (.aaload, 1) := by decide +kernel
theorem d_O_deliverLeftOver_95 : decode c_O_deliverLeftOver 95 = .ok (.iload 5, 2) := by decide +kernel
theorem d_O_deliverLeftOver_97 : decode c_O_deliverLeftOver 97 = .ok (.putfield 82, 3) := by decide +kernel
theorem d_O_deliverLeftOver_100 : decode c_O_deliverLeftOver 100 = .ok (.aload_n 0, 1) := by decide +kernel
theorem d_O_deliverLeftOver_101 : decode c_O_deliverLeftOver 101 = .ok (.aload_n 0, 1) := by decide +kernel
theorem d_O_deliverLeftOver_102 : decode c_O_deliverLeftOver 102 = .ok (.getfield 11, 3) := by decide +kernel
theorem d_O_deliverLeftOver_105 : decode c_O_deliverLeftOver 105 = .ok (.iload 6, 2) := by decide +kernel
theorem d_O_deliverLeftOver_107 : decode c_O_deliverLeftOver 107 = .ok (.aaload, 1) := by decide +kernel
theorem d_O_deliverLeftOver_108 : decode c_O_deliverLeftOver 108 = .ok (.aload_n 1, 1) := by decide +kernel
theorem d_O_deliverLeftOver_109 : decode c_O_deliverLeftOver 109 = .ok (.invokevirtual 179, 3) := by decide +kernel
theorem d_O_deliverLeftOver_112 : decode c_O_deliverLeftOver 112 = .ok (.aload_n 0, 1) := by decide +kernel
theorem d_O_deliverLeftOver_113 : decode c_O_deliverLeftOver 113 = .ok (.aload_n 0, 1) := by decide +kernel
theorem d_O_deliverLeftOver_114 : decode c_O_deliverLeftOver 114 = .ok (.getfield 11, 3) := by decide +kernel
theorem d_O_deliverLeftOver_117 : decode c_O_deliverLeftOver 117 = .ok (.iload 6, 2) := by decide +kernel
theorem d_O_deliverLeftOver_119 : decode c_O_deliverLeftOver 119 = .ok (.aaload, 1) := by decide +kernel
theorem d_O_deliverLeftOver_120 : decode c_O_deliverLeftOver 120 = .ok (.aload_n 1, 1) := by decide +kernel
theorem d_O_deliverLeftOver_121 : decode c_O_deliverLeftOver 121 = .ok (.iload_n 2, 1) := by decide +kernel
theorem d_O_deliverLeftOver_122 : decode c_O_deliverLeftOver 122 = .ok (.invokevirtual 225, 3) := by decide +kernel
theorem d_O_deliverLeftOver_125 : decode c_O_deliverLeftOver 125 = .ok (.iinc 6 1, 3) := by decide +kernel
theorem d_O_deliverLeftOver_128 : decode c_O_deliverLeftOver 128 = .ok (.goto (-66), 3) := by decide +kernel
theorem d_O_deliverLeftOver_131 : decode c_O_deliverLeftOver 131 = .ok (.return_, 1) := by decide +kernel
theorem d_O_deliverTransitional_0 : decode c_O_deliverTransitional 0 = .ok (.iconst 0, 1) := by decide +kernel
theorem d_O_deliverTransitional_1 : decode c_O_deliverTransitional 1 = .ok (.istore 4, 2) := by decide +kernel
theorem d_O_deliverTransitional_3 : decode c_O_deliverTransitional 3 = .ok (.aload_n 1, 1) := by decide +kernel
theorem d_O_deliverTransitional_4 : decode c_O_deliverTransitional 4 = .ok (.getfield 182, 3) := by decide +kernel
theorem d_O_deliverTransitional_7 : decode c_O_deliverTransitional 7 = .ok (.iconst 1, 1) := by decide +kernel
theorem d_O_deliverTransitional_8 : decode c_O_deliverTransitional 8 = .ok (.iadd, 1) := by decide +kernel
theorem d_O_deliverTransitional_9 : decode c_O_deliverTransitional 9 = .ok (.istore 5, 2) := by decide +kernel
theorem d_O_deliverTransitional_11 : decode c_O_deliverTransitional 11 = .ok (.iload 5, 2) := by decide +kernel
theorem d_O_deliverTransitional_13 : decode c_O_deliverTransitional 13 = .ok (.bipush 48, 2) := by decide +kernel
theorem d_O_deliverTransitional_15 : decode c_O_deliverTransitional 15 = .ok (.if_icmp .gt 65, 3) := by decide +kernel
theorem d_O_deliverTransitional_18 : decode c_O_deliverTransitional 18 = .ok (.aload_n 1, 1) := by decide +kernel
theorem d_O_deliverTransitional_19 : decode c_O_deliverTransitional 19 = .ok (.iload 5, 2) := by decide +kernel
theorem d_O_deliverTransitional_21 : decode c_O_deliverTransitional 21 = .ok (.invokevirtual 153, 3) := by decide +kernel
theorem d_O_deliverTransitional_24 : decode c_O_deliverTransitional 24 = .ok (.ifCond .ne 9, 3) := by decide +kernel
theorem d_O_deliverTransitional_27 : decode c_O_deliverTransitional 27 = .ok (.iconst 1, 1) := by decide +kernel
theorem d_O_deliverTransitional_28 : decode c_O_deliverTransitional 28 = .ok (.istore 4, 2) := by decide +kernel
theorem d_O_deliverTransitional_30 : decode c_O_deliverTransitional 30 = .ok (.goto 44, 3) := by decide +kernel
theorem d_O_deliverTransitional_33 : decode c_O_deliverTransitional 33 = .ok (.aload_n 2, 1) := by decide +kernel
theorem d_O_deliverTransitional_34 : decode c_O_deliverTransitional 34 = .ok (.getfield 166, 3) := by decide +kernel
theorem d_O_deliverTransitional_37 : decode c_O_deliverTransitional 37 = .ok (.iload 5, 2) := by decide +kernel
theorem d_O_deliverTransitional_39 : decode c_O_deliverTransitional 39 = .ok (.iaload, 1) := by decide +kernel
theorem d_O_deliverTransitional_40 : decode c_O_deliverTransitional 40 = .ok (.istore 6, 2) := by decide +kernel
theorem d_O_deliverTransitional_42 : decode c_O_deliverTransitional 42 = .ok (.iload 4, 2) := by decide +kernel
theorem d_O_deliverTransitional_44 : decode c_O_deliverTransitional 44 = .ok (.ifCond .eq 20, 3) := by decide +kernel
theorem d_O_deliverTransitional_47 : decode c_O_deliverTransitional 47 = .ok (.iload_n 3, 1) := by decide +kernel
