/-! decode rows, by program out of the listing -/
theorem d_Y_visit_206 : decode c_Y_visit 206 = .ok (.iconst 0, 1) := by decide +kernel
theorem d_Y_visit_207 : decode c_Y_visit 207 = .ok (.istore 7, 2) := by decide +kernel
theorem d_Y_visit_209 : decode c_Y_visit 209 = .ok (.iload 7, 2) := by decide +kernel
theorem d_Y_visit_211 : decode c_Y_visit 211 = .ok (.iconst 5, 1) := by decide +kernel
theorem d_Y_visit_212 : decode c_Y_visit 212 = .ok (.if_icmp .ge 36, 3) := by decide +kernel
theorem d_Y_visit_215 : decode c_Y_visit 215 = .ok (.aload_n 0, 1) := by decide +kernel
theorem d_Y_visit_216 : decode c_Y_visit 216 = .ok (.getfield 7, 3) := by decide +kernel
theorem d_Y_visit_219 : decode c_Y_visit 219 = .ok (.iload 7, 2) := by decide +kernel
theorem d_Y_visit_221 : decode c_Y_visit 221 = .ok (.baload, 1) := by decide +kernel
theorem d_Y_visit_222 : decode c_Y_visit 222 = .ok (.ifCond .eq 20, 3) := by decide +kernel
theorem d_Y_visit_225 : decode c_Y_visit 225 = .ok (.aload_n 0, 1) := by decide +kernel
theorem d_Y_visit_226 : decode c_Y_visit 226 = .ok (.getfield 17, 3) := by decide +kernel
theorem d_Y_visit_229 : decode c_Y_visit 229 = .ok (.iload 7, 2) := by decide +kernel
theorem d_Y_visit_231 : decode c_Y_visit 231 = .ok (.iaload, 1) := by decide +kernel
theorem d_Y_visit_232 : decode c_Y_visit 232 = .ok (.iload_n 3, 1) := by decide +kernel
theorem d_Y_visit_233 : decode c_Y_visit 233 = .ok (.if_icmp .ne 9, 3) := by decide +kernel
theorem d_Y_visit_236 : decode c_Y_visit 236 = .ok (.aload_n 0, 1) := by decide +kernel
theorem d_Y_visit_237 : decode c_Y_visit 237 = .ok (.iload 7, 2) := by decide +kernel
theorem d_Y_visit_239 : decode c_Y_visit 239 = .ok (.invokevirtual 122, 3) := by decide +kernel
theorem d_Y_visit_242 : decode c_Y_visit 242 = .ok (.iinc 7 1, 3) := by decide +kernel
theorem d_Y_visit_245 : decode c_Y_visit 245 = .ok (.goto (-36), 3) := by decide +kernel
theorem d_Y_visit_248 : decode c_Y_visit 248 = .ok (.aload_n 0, 1) := by decide +kernel
theorem d_Y_visit_249 : decode c_Y_visit 249 = .ok (.getfield 29, 3) := by decide +kernel
theorem d_Y_visit_252 : decode c_Y_visit 252 = .ok (.iload_n 1, 1) := by decide +kernel
theorem d_Y_visit_253 : decode c_Y_visit 253 = .ok (.iconst 0, 1) := by decide +kernel
theorem d_Y_visit_254 : decode c_Y_visit 254 = .ok (.iastore, 1) := by decide +kernel
theorem d_Y_visit_255 : decode c_Y_visit 255 = .ok (.aload_n 0, 1) := by decide +kernel
theorem d_Y_visit_256 : decode c_Y_visit 256 = .ok (.iload_n 1, 1) := by decide +kernel
theorem d_Y_visit_257 : decode c_Y_visit 257 = .ok (.invokevirtual 126, 3) := by decide +kernel
theorem d_Y_visit_260 : decode c_Y_visit 260 = .ok (.ifCond .eq 16, 3) := by decide +kernel
theorem d_Y_visit_263 : decode c_Y_visit 263 = .ok (.aload_n 0, 1) := by decide +kernel
theorem d_Y_visit_264 : decode c_Y_visit 264 = .ok (.aload_n 0, 1) := by decide +kernel
theorem d_Y_visit_265 : decode c_Y_visit 265 = .ok (.getfield 13, 3) := by decide +kernel
theorem d_Y_visit_268 : decode c_Y_visit 268 = .ok (.iload_n 1, 1) := by decide +kernel
theorem d_Y_visit_269 : decode c_Y_visit 269 = .ok (.iaload, 1) := by decide +kernel
theorem d_Y_visit_270 : decode c_Y_visit 270 = .ok (.invokevirtual 129, 3) := by decide +kernel
theorem d_Y_visit_273 : decode c_Y_visit 273 = .ok (.goto 9, 3) := by decide +kernel
theorem d_Y_visit_276 : decode c_Y_visit 276 = .ok (.aload_n 0, 1) := by decide +kernel
theorem d_Y_visit_277 : decode c_Y_visit 277 = .ok (.iload_n 1, 1) := by decide +kernel
theorem d_Y_visit_278 : decode c_Y_visit 278 = .ok (.iload_n 3, 1) := by decide +kernel
theorem d_Y_visit_279 : decode c_Y_visit 279 = .ok (.invokevirtual 132, 3) := by decide +kernel
theorem d_Y_visit_282 : decode c_Y_visit 282 = .ok (.iload 4, 2) := by decide +kernel
theorem d_Y_visit_284 : decode c_Y_visit 284 = .ok (.iload 5, 2) := by decide +kernel
theorem d_Y_visit_286 : decode c_Y_visit 286 = .ok (.iadd, 1) := by decide +kernel
theorem d_Y_visit_287 : decode c_Y_visit 287 = .ok (.ireturn, 1) := by decide +kernel
theorem d_Y_newRing_0 : decode c_Y_newRing 0 = .ok (.aload_n 0, 1) := by decide +kernel
theorem d_Y_newRing_1 : decode c_Y_newRing 1 = .ok (.dup, 1) := by decide +kernel
theorem d_Y_newRing_2 : decode c_Y_newRing 2 = .ok (.getfield 72, 3) := by decide +kernel
theorem d_Y_newRing_5 : decode c_Y_newRing 5 = .ok (.iconst 1, 1) := by decide +kernel
theorem d_Y_newRing_6 : decode c_Y_newRing 6 = .ok (.iadd, 1) := by decide +kernel
theorem d_Y_newRing_7 : decode c_Y_newRing 7 = .ok (.putfield 72, 3) := by decide +kernel
theorem d_Y_newRing_10 : decode c_Y_newRing 10 = .ok (.aload_n 0, 1) := by decide +kernel
theorem d_Y_newRing_11 : decode c_Y_newRing 11 = .ok (.getfield 62, 3) := by decide +kernel
theorem d_Y_newRing_14 : decode c_Y_newRing 14 = .ok (.aload_n 0, 1) := by decide +kernel
theorem d_Y_newRing_15 : decode c_Y_newRing 15 = .ok (.getfield 72, 3) := by decide +kernel
theorem d_Y_newRing_18 : decode c_Y_newRing 18 = .ok (.iload_n 1, 1) := by decide +kernel
theorem d_Y_newRing_19 : decode c_Y_newRing 19 = .ok (.iastore, 1) := by decide +kernel
theorem d_Y_newRing_20 : decode c_Y_newRing 20 = .ok (.aload_n 0, 1) := by decide +kernel
theorem d_Y_newRing_21 : decode c_Y_newRing 21 = .ok (.getfield 56, 3) := by decide +kernel
theorem d_Y_newRing_24 : decode c_Y_newRing 24 = .ok (.aload_n 0, 1) := by decide +kernel
theorem d_Y_newRing_25 : decode c_Y_newRing 25 = .ok (.getfield 72, 3) := by decide +kernel
theorem d_Y_newRing_28 : decode c_Y_newRing 28 = .ok (.iload_n 2, 1) := by decide +kernel
theorem d_Y_newRing_29 : decode c_Y_newRing 29 = .ok (.iastore, 1) := by decide +kernel
theorem d_Y_newRing_30 : decode c_Y_newRing 30 = .ok (.return_, 1) := by decide +kernel
theorem d_Y_enter_0 : decode c_Y_enter 0 = .ok (.aload_n 0, 1) := by decide +kernel
theorem d_Y_enter_1 : decode c_Y_enter 1 = .ok (.getfield 17, 3) := by decide +kernel
theorem d_Y_enter_4 : decode c_Y_enter 4 = .ok (.iload_n 1, 1) := by decide +kernel
theorem d_Y_enter_5 : decode c_Y_enter 5 = .ok (.iaload, 1) := by decide +kernel
theorem d_Y_enter_6 : decode c_Y_enter 6 = .ok (.istore_n 2, 1) := by decide +kernel
theorem d_Y_enter_7 : decode c_Y_enter 7 = .ok (.aload_n 0, 1) := by decide +kernel
theorem d_Y_enter_8 : decode c_Y_enter 8 = .ok (.getfield 56, 3) := by decide +kernel
theorem d_Y_enter_11 : decode c_Y_enter 11 = .ok (.iload_n 2, 1) := by decide +kernel
theorem d_Y_enter_12 : decode c_Y_enter 12 = .ok (.aload_n 0, 1) := by decide +kernel
theorem d_Y_enter_13 : decode c_Y_enter 13 = .ok (.getfield 56, 3) := by decide +kernel
theorem d_Y_enter_16 : decode c_Y_enter 16 = .ok (.iload_n 2, 1) := by decide +kernel
theorem d_Y_enter_17 : decode c_Y_enter 17 = .ok (.iaload, 1) := by decide +kernel
theorem d_Y_enter_18 : decode c_Y_enter 18 = .ok (.iload_n 1, 1) := by decide +kernel
theorem d_Y_enter_19 : decode c_Y_enter 19 = .ok (.if_icmp .ne 7, 3) := by decide +kernel
theorem d_Y_enter_22 : decode c_Y_enter 22 = .ok (.iconst (-1), 1) := by decide +kernel
theorem d_Y_enter_23 : decode c_Y_enter 23 = .ok (.goto 9, 3) := by decide +kernel
theorem d_Y_enter_26 : decode c_Y_enter 26 = .ok (.aload_n 0, 1) := by decide +kernel
theorem d_Y_enter_27 : decode c_Y_enter 27 = .ok (.getfield 56, 3) := by decide +kernel
theorem d_Y_enter_30 : decode c_Y_enter 30 = .ok (.iload_n 2, 1) := by decide +kernel
theorem d_Y_enter_31 : decode c_Y_enter 31 = .ok (.iaload, 1) := by decide +kernel
theorem d_Y_enter_32 : decode c_Y_enter 32 = .ok (.iastore, 1) := by decide +kernel
theorem d_Y_enter_33 : decode c_Y_enter 33 = .ok (.aload_n 0, 1) := by decide +kernel
theorem d_Y_enter_34 : decode c_Y_enter 34 = .ok (.getfield 17, 3) := by decide +kernel
theorem d_Y_enter_37 : decode c_Y_enter 37 = .ok (.iload_n 1, 1) := by decide +kernel
theorem d_Y_enter_38 : decode c_Y_enter 38 = .ok (.aload_n 0, 1) := by decide +kernel
theorem d_Y_enter_39 : decode c_Y_enter 39 = .ok (.getfield 72, 3) := by decide +kernel
theorem d_Y_enter_42 : decode c_Y_enter 42 = .ok (.iastore, 1) := by decide +kernel
theorem d_Y_enter_43 : decode c_Y_enter 43 = .ok (.aload_n 0, 1) := by decide +kernel
theorem d_Y_enter_44 : decode c_Y_enter 44 = .ok (.iload_n 1, 1) := by decide +kernel
theorem d_Y_enter_45 : decode c_Y_enter 45 = .ok (.invokevirtual 135, 3) := by decide +kernel
theorem d_Y_enter_48 : decode c_Y_enter 48 = .ok (.return_, 1) := by decide +kernel
theorem d_Y_clean_0 : decode c_Y_clean 0 = .ok (.iconst 1, 1) := by decide +kernel
theorem d_Y_clean_1 : decode c_Y_clean 1 = .ok (.istore_n 2, 1) := by decide +kernel
theorem d_Y_clean_2 : decode c_Y_clean 2 = .ok (.iload_n 2, 1) := by decide +kernel
theorem d_Y_clean_3 : decode c_Y_clean 3 = .ok (.bipush 48, 2) := by decide +kernel
theorem d_Y_clean_5 : decode c_Y_clean 5 = .ok (.if_icmp .gt 21, 3) := by decide +kernel
theorem d_Y_clean_8 : decode c_Y_clean 8 = .ok (.aload_n 0, 1) := by decide +kernel
theorem d_Y_clean_9 : decode c_Y_clean 9 = .ok (.getfield 32, 3) := by decide +kernel
theorem d_Y_clean_12 : decode c_Y_clean 12 = .ok (.bipush 49, 2) := by decide +kernel
theorem d_Y_clean_14 : decode c_Y_clean 14 = .ok (.iload_n 1, 1) := by decide +kernel
theorem d_Y_clean_15 : decode c_Y_clean 15 = .ok (.imul, 1) := by decide +kernel
theorem d_Y_clean_16 : decode c_Y_clean 16 = .ok (.iload_n 2, 1) := by decide +kernel
theorem d_Y_clean_17 : decode c_Y_clean 17 = .ok (.iadd, 1) := by decide +kernel
theorem d_Y_clean_18 : decode c_Y_clean 18 = .ok (.iconst 0, 1) := by decide +kernel
theorem d_Y_clean_19 : decode c_Y_clean 19 = .ok (.bastore, 1) := by decide +kernel
theorem d_Y_clean_20 : decode c_Y_clean 20 = .ok (.iinc 2 1, 3) := by decide +kernel
theorem d_Y_clean_23 : decode c_Y_clean 23 = .ok (.goto (-21), 3) := by decide +kernel
theorem d_Y_clean_26 : decode c_Y_clean 26 = .ok (.aload_n 0, 1) := by decide +kernel
theorem d_Y_clean_27 : decode c_Y_clean 27 = .ok (.getfield 20, 3) := by decide +kernel
theorem d_Y_clean_30 : decode c_Y_clean 30 = .ok (.iload_n 1, 1) := by decide +kernel
theorem d_Y_clean_31 : decode c_Y_clean 31 = .ok (.iconst 0, 1) := by decide +kernel
theorem d_Y_clean_32 : decode c_Y_clean 32 = .ok (.iastore, 1) := by decide +kernel
theorem d_Y_clean_33 : decode c_Y_clean 33 = .ok (.aload_n 0, 1) := by decide +kernel
theorem d_Y_clean_34 : decode c_Y_clean 34 = .ok (.getfield 23, 3) := by decide +kernel
theorem d_Y_clean_37 : decode c_Y_clean 37 = .ok (.iload_n 1, 1) := by decide +kernel
theorem d_Y_clean_38 : decode c_Y_clean 38 = .ok (.iconst 0, 1) := by decide +kernel
theorem d_Y_clean_39 : decode c_Y_clean 39 = .ok (.iastore, 1) := by decide +kernel
theorem d_Y_clean_40 : decode c_Y_clean 40 = .ok (.aload_n 0, 1) := by decide +kernel
theorem d_Y_clean_41 : decode c_Y_clean 41 = .ok (.getfield 29, 3) := by decide +kernel
theorem d_Y_clean_44 : decode c_Y_clean 44 = .ok (.iload_n 1, 1) := by decide +kernel
theorem d_Y_clean_45 : decode c_Y_clean 45 = .ok (.iconst 0, 1) := by decide +kernel
theorem d_Y_clean_46 : decode c_Y_clean 46 = .ok (.iastore, 1) := by decide +kernel
theorem d_Y_clean_47 : decode c_Y_clean 47 = .ok (.return_, 1) := by decide +kernel
theorem d_Y_together_0 : decode c_Y_together 0 = .ok (.iconst 0, 1) := by decide +kernel
theorem d_Y_together_1 : decode c_Y_together 1 = .ok (.istore_n 3, 1) := by decide +kernel
theorem d_Y_together_2 : decode c_Y_together 2 = .ok (.iconst 0, 1) := by decide +kernel
theorem d_Y_together_3 : decode c_Y_together 3 = .ok (.istore 4, 2) := by decide +kernel
theorem d_Y_together_5 : decode c_Y_together 5 = .ok (.iload 4, 2) := by decide +kernel
theorem d_Y_together_7 : decode c_Y_together 7 = .ok (.iconst 5, 1) := by decide +kernel
theorem d_Y_together_8 : decode c_Y_together 8 = .ok (.if_icmp .ge 52, 3) := by decide +kernel
theorem d_Y_together_11 : decode c_Y_together 11 = .ok (.aload_n 0, 1) := by decide +kernel
theorem d_Y_together_12 : decode c_Y_together 12 = .ok (.getfield 7, 3) := by decide +kernel
theorem d_Y_together_15 : decode c_Y_together 15 = .ok (.iload 4, 2) := by decide +kernel
theorem d_Y_together_17 : decode c_Y_together 17 = .ok (.baload, 1) := by decide +kernel
theorem d_Y_together_18 : decode c_Y_together 18 = .ok (.ifCond .eq 34, 3) := by decide +kernel
theorem d_Y_together_21 : decode c_Y_together 21 = .ok (.aload_n 0, 1) := by decide +kernel
theorem d_Y_together_22 : decode c_Y_together 22 = .ok (.getfield 13, 3) := by decide +kernel
theorem d_Y_together_25 : decode c_Y_together 25 = .ok (.iload 4, 2) := by decide +kernel
theorem d_Y_together_27 : decode c_Y_together 27 = .ok (.iaload, 1) := by decide +kernel
theorem d_Y_together_28 : decode c_Y_together 28 = .ok (.iload_n 1, 1) := by decide +kernel
theorem d_Y_together_29 : decode c_Y_together 29 = .ok (.if_icmp .ne 23, 3) := by decide +kernel
theorem d_Y_together_32 : decode c_Y_together 32 = .ok (.aload_n 0, 1) := by decide +kernel
theorem d_Y_together_33 : decode c_Y_together 33 = .ok (.getfield 17, 3) := by decide +kernel
theorem d_Y_together_36 : decode c_Y_together 36 = .ok (.iload 4, 2) := by decide +kernel
theorem d_Y_together_38 : decode c_Y_together 38 = .ok (.iaload, 1) := by decide +kernel
theorem d_Y_together_39 : decode c_Y_together 39 = .ok (.iload_n 2, 1) := by decide +kernel
theorem d_Y_together_40 : decode c_Y_together 40 = .ok (.if_icmp .ne 12, 3) := by decide +kernel
theorem d_Y_together_43 : decode c_Y_together 43 = .ok (.iload_n 3, 1) := by decide +kernel
theorem d_Y_together_44 : decode c_Y_together 44 = .ok (.iconst 1, 1) := by decide +kernel
theorem d_Y_together_45 : decode c_Y_together 45 = .ok (.iload 4, 2) := by decide +kernel
theorem d_Y_together_47 : decode c_Y_together 47 = .ok (.ishl, 1) := by decide +kernel
theorem d_Y_together_48 : decode c_Y_together 48 = .ok (.ior, 1) := by decide +kernel
theorem d_Y_together_49 : decode c_Y_together 49 = .ok (.goto 4, 3) := by decide +kernel
theorem d_Y_together_52 : decode c_Y_together 52 = .ok (.iload_n 3, 1) := by decide +kernel
theorem d_Y_together_53 : decode c_Y_together 53 = .ok (.istore_n 3, 1) := by decide +kernel
theorem d_Y_together_54 : decode c_Y_together 54 = .ok (.iinc 4 1, 3) := by decide +kernel
theorem d_Y_together_57 : decode c_Y_together 57 = .ok (.goto (-52), 3) := by decide +kernel
theorem d_Y_together_60 : decode c_Y_together 60 = .ok (.iload_n 3, 1) := by decide +kernel
theorem d_Y_together_61 : decode c_Y_together 61 = .ok (.ireturn, 1) := by decide +kernel
theorem d_Y_share_0 : decode c_Y_share 0 = .ok (.iconst 0, 1) := by decide +kernel
theorem d_Y_share_1 : decode c_Y_share 1 = .ok (.istore_n 2, 1) := by decide +kernel
theorem d_Y_share_2 : decode c_Y_share 2 = .ok (.iconst 0, 1) := by decide +kernel
theorem d_Y_share_3 : decode c_Y_share 3 = .ok (.istore_n 3, 1) := by decide +kernel
theorem d_Y_share_4 : decode c_Y_share 4 = .ok (.iload_n 3, 1) := by decide +kernel
theorem d_Y_share_5 : decode c_Y_share 5 = .ok (.iconst 5, 1) := by decide +kernel
theorem d_Y_share_6 : decode c_Y_share 6 = .ok (.if_icmp .ge 39, 3) := by decide +kernel
theorem d_Y_share_9 : decode c_Y_share 9 = .ok (.iload_n 1, 1) := by decide +kernel
theorem d_Y_share_10 : decode c_Y_share 10 = .ok (.iload_n 3, 1) := by decide +kernel
theorem d_Y_share_11 : decode c_Y_share 11 = .ok (.ishr, 1) := by decide +kernel
theorem d_Y_share_12 : decode c_Y_share 12 = .ok (.iconst 1, 1) := by decide +kernel
theorem d_Y_share_13 : decode c_Y_share 13 = .ok (.iand, 1) := by decide +kernel
theorem d_Y_share_14 : decode c_Y_share 14 = .ok (.iconst 1, 1) := by decide +kernel
theorem d_Y_share_15 : decode c_Y_share 15 = .ok (.if_icmp .ne 22, 3) := by decide +kernel
theorem d_Y_share_18 : decode c_Y_share 18 = .ok (.aload_n 0, 1) := by decide +kernel
theorem d_Y_share_19 : decode c_Y_share 19 = .ok (.getfield 20, 3) := by decide +kernel
theorem d_Y_share_22 : decode c_Y_share 22 = .ok (.iload_n 3, 1) := by decide +kernel
theorem d_Y_share_23 : decode c_Y_share 23 = .ok (.iaload, 1) := by decide +kernel
theorem d_Y_share_24 : decode c_Y_share 24 = .ok (.iload_n 2, 1) := by decide +kernel
theorem d_Y_share_25 : decode c_Y_share 25 = .ok (.if_icmp .le 12, 3) := by decide +kernel
theorem d_Y_share_28 : decode c_Y_share 28 = .ok (.aload_n 0, 1) := by decide +kernel
theorem d_Y_share_29 : decode c_Y_share 29 = .ok (.getfield 20, 3) := by decide +kernel
theorem d_Y_share_32 : decode c_Y_share 32 = .ok (.iload_n 3, 1) := by decide +kernel
theorem d_Y_share_33 : decode c_Y_share 33 = .ok (.iaload, 1) := by decide +kernel
theorem d_Y_share_34 : decode c_Y_share 34 = .ok (.goto 4, 3) := by decide +kernel
theorem d_Y_share_37 : decode c_Y_share 37 = .ok (.iload_n 2, 1) := by decide +kernel
theorem d_Y_share_38 : decode c_Y_share 38 = .ok (.istore_n 2, 1) := by decide +kernel
theorem d_Y_share_39 : decode c_Y_share 39 = .ok (.iinc 3 1, 3) := by decide +kernel
theorem d_Y_share_42 : decode c_Y_share 42 = .ok (.goto (-38), 3) := by decide +kernel
theorem d_Y_share_45 : decode c_Y_share 45 = .ok (.iconst 1, 1) := by decide +kernel
theorem d_Y_share_46 : decode c_Y_share 46 = .ok (.istore_n 3, 1) := by decide +kernel
theorem d_Y_share_47 : decode c_Y_share 47 = .ok (.iload_n 3, 1) := by decide +kernel
theorem d_Y_share_48 : decode c_Y_share 48 = .ok (.bipush 48, 2) := by decide +kernel
theorem d_Y_share_50 : decode c_Y_share 50 = .ok (.if_icmp .gt 118, 3) := by decide +kernel
theorem d_Y_share_53 : decode c_Y_share 53 = .ok (.iconst 0, 1) := by decide +kernel
theorem d_Y_share_54 : decode c_Y_share 54 = .ok (.istore 4, 2) := by decide +kernel
theorem d_Y_share_56 : decode c_Y_share 56 = .ok (.iconst 0, 1) := by decide +kernel
theorem d_Y_share_57 : decode c_Y_share 57 = .ok (.istore 5, 2) := by decide +kernel
theorem d_Y_share_59 : decode c_Y_share 59 = .ok (.iload 5, 2) := by decide +kernel
theorem d_Y_share_61 : decode c_Y_share 61 = .ok (.iconst 5, 1) := by decide +kernel
theorem d_Y_share_62 : decode c_Y_share 62 = .ok (.if_icmp .ge 46, 3) := by decide +kernel
theorem d_Y_share_65 : decode c_Y_share 65 = .ok (.iload 4, 2) := by decide +kernel
theorem d_Y_share_67 : decode c_Y_share 67 = .ok (.ifCond .ne 28, 3) := by decide +kernel
theorem d_Y_share_70 : decode c_Y_share 70 = .ok (.iload_n 1, 1) := by decide +kernel
theorem d_Y_share_71 : decode c_Y_share 71 = .ok (.iload 5, 2) := by decide +kernel
theorem d_Y_share_73 : decode c_Y_share 73 = .ok (.ishr, 1) := by decide +kernel
theorem d_Y_share_74 : decode c_Y_share 74 = .ok (.iconst 1, 1) := by decide +kernel
theorem d_Y_share_75 : decode c_Y_share 75 = .ok (.iand, 1) := by decide +kernel
theorem d_Y_share_76 : decode c_Y_share 76 = .ok (.iconst 1, 1) := by decide +kernel
theorem d_Y_share_77 : decode c_Y_share 77 = .ok (.if_icmp .ne 22, 3) := by decide +kernel
theorem d_Y_share_80 : decode c_Y_share 80 = .ok (.aload_n 0, 1) := by decide +kernel
theorem d_Y_share_81 : decode c_Y_share 81 = .ok (.getfield 32, 3) := by decide +kernel
theorem d_Y_share_84 : decode c_Y_share 84 = .ok (.bipush 49, 2) := by decide +kernel
theorem d_Y_share_86 : decode c_Y_share 86 = .ok (.iload 5, 2) := by decide +kernel
theorem d_Y_share_88 : decode c_Y_share 88 = .ok (.imul, 1) := by decide +kernel
theorem d_Y_share_89 : decode c_Y_share 89 = .ok (.iload_n 3, 1) := by decide +kernel
theorem d_Y_share_90 : decode c_Y_share 90 = .ok (.iadd, 1) := by decide +kernel
theorem d_Y_share_91 : decode c_Y_share 91 = .ok (.baload, 1) := by decide +kernel
theorem d_Y_share_92 : decode c_Y_share 92 = .ok (.ifCond .eq 7, 3) := by decide +kernel
theorem d_Y_share_95 : decode c_Y_share 95 = .ok (.iconst 1, 1) := by decide +kernel
theorem d_Y_share_96 : decode c_Y_share 96 = .ok (.goto 4, 3) := by decide +kernel
theorem d_Y_share_99 : decode c_Y_share 99 = .ok (.iconst 0, 1) := by decide +kernel
theorem d_Y_share_100 : decode c_Y_share 100 = .ok (.istore 4, 2) := by decide +kernel
theorem d_Y_share_102 : decode c_Y_share 102 = .ok (.iinc 5 1, 3) := by decide +kernel
theorem d_Y_share_105 : decode c_Y_share 105 = .ok (.goto (-46), 3) := by decide +kernel
theorem d_Y_share_108 : decode c_Y_share 108 = .ok (.iconst 0, 1) := by decide +kernel
theorem d_Y_share_109 : decode c_Y_share 109 = .ok (.istore 5, 2) := by decide +kernel
theorem d_Y_share_111 : decode c_Y_share 111 = .ok (.iload 5, 2) := by decide +kernel
theorem d_Y_share_113 : decode c_Y_share 113 = .ok (.iconst 5, 1) := by decide +kernel
theorem d_Y_share_114 : decode c_Y_share 114 = .ok (.if_icmp .ge 48, 3) := by decide +kernel
theorem d_Y_share_117 : decode c_Y_share 117 = .ok (.aload_n 0, 1) := by decide +kernel
theorem d_Y_share_118 : decode c_Y_share 118 = .ok (.getfield 32, 3) := by decide +kernel
theorem d_Y_share_121 : decode c_Y_share 121 = .ok (.bipush 49, 2) := by decide +kernel
theorem d_Y_share_123 : decode c_Y_share 123 = .ok (.iload 5, 2) := by decide +kernel
theorem d_Y_share_125 : decode c_Y_share 125 = .ok (.imul, 1) := by decide +kernel
theorem d_Y_share_126 : decode c_Y_share 126 = .ok (.iload_n 3, 1) := by decide +kernel
theorem d_Y_share_127 : decode c_Y_share 127 = .ok (.iadd, 1) := by decide +kernel
theorem d_Y_share_128 : decode c_Y_share 128 = .ok (.iload_n 1, 1) := by decide +kernel
theorem d_Y_share_129 : decode c_Y_share 129 = .ok (.iload 5, 2) := by decide +kernel
theorem d_Y_share_131 : decode c_Y_share 131 = .ok (.ishr, 1) := by decide +kernel
theorem d_Y_share_132 : decode c_Y_share 132 = .ok (.iconst 1, 1) := by decide +kernel
theorem d_Y_share_133 : decode c_Y_share 133 = .ok (.iand, 1) := by decide +kernel
theorem d_Y_share_134 : decode c_Y_share 134 = .ok (.iconst 1, 1) := by decide +kernel
theorem d_Y_share_135 : decode c_Y_share 135 = .ok (.if_icmp .ne 8, 3) := by decide +kernel
theorem d_Y_share_138 : decode c_Y_share 138 = .ok (.iload 4, 2) := by decide +kernel
theorem d_Y_share_140 : decode c_Y_share 140 = .ok (.goto 15, 3) := by decide +kernel
theorem d_Y_share_143 : decode c_Y_share 143 = .ok (.aload_n 0, 1) := by decide +kernel
theorem d_Y_share_144 : decode c_Y_share 144 = .ok (.getfield 32, 3) := by decide +kernel
theorem d_Y_share_147 : decode c_Y_share 147 = .ok (.bipush 49, 2) := by decide +kernel
theorem d_Y_share_149 : decode c_Y_share 149 = .ok (.iload 5, 2) := by decide +kernel
theorem d_Y_share_151 : decode c_Y_share 151 = .ok (.imul, 1) := by decide +kernel
theorem d_Y_share_152 : decode c_Y_share 152 = .ok (.iload_n 3, 1) := by decide +kernel
theorem d_Y_share_153 : decode c_Y_share 153 = .ok (.iadd, 1) := by decide +kernel
theorem d_Y_share_154 : decode c_Y_share 154 = .ok (.baload, 1) := by decide +kernel
theorem d_Y_share_155 : decode c_Y_share 155 = .ok (.bastore, 1) := by decide +kernel
theorem d_Y_share_156 : decode c_Y_share 156 = .ok (.iinc 5 1, 3) := by decide +kernel
theorem d_Y_share_159 : decode c_Y_share 159 = .ok (.goto (-48), 3) := by decide +kernel
theorem d_Y_share_162 : decode c_Y_share 162 = .ok (.iinc 3 1, 3) := by decide +kernel
theorem d_Y_share_165 : decode c_Y_share 165 = .ok (.goto (-118), 3) := by decide +kernel
theorem d_Y_share_168 : decode c_Y_share 168 = .ok (.iconst 0, 1) := by decide +kernel
theorem d_Y_share_169 : decode c_Y_share 169 = .ok (.istore_n 3, 1) := by decide +kernel
theorem d_Y_share_170 : decode c_Y_share 170 = .ok (.iload_n 3, 1) := by decide +kernel
theorem d_Y_share_171 : decode c_Y_share 171 = .ok (.iconst 5, 1) := by decide +kernel
theorem d_Y_share_172 : decode c_Y_share 172 = .ok (.if_icmp .ge 36, 3) := by decide +kernel
theorem d_Y_share_175 : decode c_Y_share 175 = .ok (.iload_n 1, 1) := by decide +kernel
theorem d_Y_share_176 : decode c_Y_share 176 = .ok (.iload_n 3, 1) := by decide +kernel
theorem d_Y_share_177 : decode c_Y_share 177 = .ok (.ishr, 1) := by decide +kernel
theorem d_Y_share_178 : decode c_Y_share 178 = .ok (.iconst 1, 1) := by decide +kernel
theorem d_Y_share_179 : decode c_Y_share 179 = .ok (.iand, 1) := by decide +kernel
theorem d_Y_share_180 : decode c_Y_share 180 = .ok (.iconst 1, 1) := by decide +kernel
theorem d_Y_share_181 : decode c_Y_share 181 = .ok (.if_icmp .ne 21, 3) := by decide +kernel
theorem d_Y_share_184 : decode c_Y_share 184 = .ok (.aload_n 0, 1) := by decide +kernel
theorem d_Y_share_185 : decode c_Y_share 185 = .ok (.getfield 20, 3) := by decide +kernel
theorem d_Y_share_188 : decode c_Y_share 188 = .ok (.iload_n 3, 1) := by decide +kernel
theorem d_Y_share_189 : decode c_Y_share 189 = .ok (.iload_n 2, 1) := by decide +kernel
theorem d_Y_share_190 : decode c_Y_share 190 = .ok (.iastore, 1) := by decide +kernel
theorem d_Y_share_191 : decode c_Y_share 191 = .ok (.aload_n 0, 1) := by decide +kernel
theorem d_Y_share_192 : decode c_Y_share 192 = .ok (.iload_n 3, 1) := by decide +kernel
theorem d_Y_share_193 : decode c_Y_share 193 = .ok (.invokevirtual 122, 3) := by decide +kernel
theorem d_Y_share_196 : decode c_Y_share 196 = .ok (.aload_n 0, 1) := by decide +kernel
theorem d_Y_share_197 : decode c_Y_share 197 = .ok (.iload_n 3, 1) := by decide +kernel
theorem d_Y_share_198 : decode c_Y_share 198 = .ok (.iload_n 1, 1) := by decide +kernel
theorem d_Y_share_199 : decode c_Y_share 199 = .ok (.invokevirtual 138, 3) := by decide +kernel
theorem d_Y_share_202 : decode c_Y_share 202 = .ok (.iinc 3 1, 3) := by decide +kernel
theorem d_Y_share_205 : decode c_Y_share 205 = .ok (.goto (-35), 3) := by decide +kernel
theorem d_Y_share_208 : decode c_Y_share 208 = .ok (.return_, 1) := by decide +kernel
theorem d_Y_finish_0 : decode c_Y_finish 0 = .ok (.iconst 0, 1) := by decide +kernel
theorem d_Y_finish_1 : decode c_Y_finish 1 = .ok (.istore_n 3, 1) := by decide +kernel
theorem d_Y_finish_2 : decode c_Y_finish 2 = .ok (.aload_n 0, 1) := by decide +kernel
theorem d_Y_finish_3 : decode c_Y_finish 3 = .ok (.getfield 23, 3) := by decide +kernel
theorem d_Y_finish_6 : decode c_Y_finish 6 = .ok (.iload_n 1, 1) := by decide +kernel
theorem d_Y_finish_7 : decode c_Y_finish 7 = .ok (.iaload, 1) := by decide +kernel
theorem d_Y_finish_8 : decode c_Y_finish 8 = .ok (.iconst 1, 1) := by decide +kernel
theorem d_Y_finish_9 : decode c_Y_finish 9 = .ok (.iadd, 1) := by decide +kernel
theorem d_Y_finish_10 : decode c_Y_finish 10 = .ok (.istore 4, 2) := by decide +kernel
theorem d_Y_finish_12 : decode c_Y_finish 12 = .ok (.iload 4, 2) := by decide +kernel
theorem d_Y_finish_14 : decode c_Y_finish 14 = .ok (.bipush 48, 2) := by decide +kernel
theorem d_Y_finish_16 : decode c_Y_finish 16 = .ok (.if_icmp .gt 100, 3) := by decide +kernel
theorem d_Y_finish_19 : decode c_Y_finish 19 = .ok (.aload_n 0, 1) := by decide +kernel
theorem d_Y_finish_20 : decode c_Y_finish 20 = .ok (.aload_n 0, 1) := by decide +kernel
theorem d_Y_finish_21 : decode c_Y_finish 21 = .ok (.getfield 17, 3) := by decide +kernel
theorem d_Y_finish_24 : decode c_Y_finish 24 = .ok (.iload_n 1, 1) := by decide +kernel
theorem d_Y_finish_25 : decode c_Y_finish 25 = .ok (.iaload, 1) := by decide +kernel
theorem d_Y_finish_26 : decode c_Y_finish 26 = .ok (.iload 4, 2) := by decide +kernel
theorem d_Y_finish_28 : decode c_Y_finish 28 = .ok (.invokevirtual 83, 3) := by decide +kernel
theorem d_Y_finish_31 : decode c_Y_finish 31 = .ok (.istore 5, 2) := by decide +kernel
theorem d_Y_finish_33 : decode c_Y_finish 33 = .ok (.iload 5, 2) := by decide +kernel
theorem d_Y_finish_35 : decode c_Y_finish 35 = .ok (.ifCond .le 22, 3) := by decide +kernel
theorem d_Y_finish_38 : decode c_Y_finish 38 = .ok (.aload_n 0, 1) := by decide +kernel
theorem d_Y_finish_39 : decode c_Y_finish 39 = .ok (.getfield 32, 3) := by decide +kernel
theorem d_Y_finish_42 : decode c_Y_finish 42 = .ok (.bipush 49, 2) := by decide +kernel
theorem d_Y_finish_44 : decode c_Y_finish 44 = .ok (.iload_n 1, 1) := by decide +kernel
theorem d_Y_finish_45 : decode c_Y_finish 45 = .ok (.imul, 1) := by decide +kernel
theorem d_Y_finish_46 : decode c_Y_finish 46 = .ok (.iload 5, 2) := by decide +kernel
theorem d_Y_finish_48 : decode c_Y_finish 48 = .ok (.iadd, 1) := by decide +kernel
theorem d_Y_finish_49 : decode c_Y_finish 49 = .ok (.baload, 1) := by decide +kernel
theorem d_Y_finish_50 : decode c_Y_finish 50 = .ok (.ifCond .eq 7, 3) := by decide +kernel
theorem d_Y_finish_53 : decode c_Y_finish 53 = .ok (.iconst 1, 1) := by decide +kernel
theorem d_Y_finish_54 : decode c_Y_finish 54 = .ok (.goto 4, 3) := by decide +kernel
theorem d_Y_finish_57 : decode c_Y_finish 57 = .ok (.iconst 0, 1) := by decide +kernel
theorem d_Y_finish_58 : decode c_Y_finish 58 = .ok (.istore 6, 2) := by decide +kernel
theorem d_Y_finish_60 : decode c_Y_finish 60 = .ok (.iload_n 3, 1) := by decide +kernel
theorem d_Y_finish_61 : decode c_Y_finish 61 = .ok (.ifCond .ne 8, 3) := by decide +kernel
theorem d_Y_finish_64 : decode c_Y_finish 64 = .ok (.iload 6, 2) := by decide +kernel
theorem d_Y_finish_66 : decode c_Y_finish 66 = .ok (.ifCond .ne 7, 3) := by decide +kernel
theorem d_Y_finish_69 : decode c_Y_finish 69 = .ok (.iconst 1, 1) := by decide +kernel
theorem d_Y_finish_70 : decode c_Y_finish 70 = .ok (.goto 4, 3) := by decide +kernel
theorem d_Y_finish_73 : decode c_Y_finish 73 = .ok (.iconst 0, 1) := by decide +kernel
theorem d_Y_finish_74 : decode c_Y_finish 74 = .ok (.istore_n 3, 1) := by decide +kernel
theorem d_Y_finish_75 : decode c_Y_finish 75 = .ok (.iload 6, 2) := by decide +kernel
theorem d_Y_finish_77 : decode c_Y_finish 77 = .ok (.ifCond .eq 33, 3) := by decide +kernel
theorem d_Y_finish_80 : decode c_Y_finish 80 = .ok (.iload_n 3, 1) := by decide +kernel
theorem d_Y_finish_81 : decode c_Y_finish 81 = .ok (.ifCond .eq 18, 3) := by decide +kernel
theorem d_Y_finish_84 : decode c_Y_finish 84 = .ok (.iload_n 2, 1) := by decide +kernel
theorem d_Y_finish_85 : decode c_Y_finish 85 = .ok (.aload_n 0, 1) := by decide +kernel
theorem d_Y_finish_86 : decode c_Y_finish 86 = .ok (.getfield 41, 3) := by decide +kernel
theorem d_Y_finish_89 : decode c_Y_finish 89 = .ok (.iload 5, 2) := by decide +kernel
theorem d_Y_finish_91 : decode c_Y_finish 91 = .ok (.iaload, 1) := by decide +kernel
theorem d_Y_finish_92 : decode c_Y_finish 92 = .ok (.ishr, 1) := by decide +kernel
theorem d_Y_finish_93 : decode c_Y_finish 93 = .ok (.iconst 1, 1) := by decide +kernel
theorem d_Y_finish_94 : decode c_Y_finish 94 = .ok (.iand, 1) := by decide +kernel
theorem d_Y_finish_95 : decode c_Y_finish 95 = .ok (.iconst 1, 1) := by decide +kernel
theorem d_Y_finish_96 : decode c_Y_finish 96 = .ok (.if_icmp .ne 14, 3) := by decide +kernel
theorem d_Y_finish_99 : decode c_Y_finish 99 = .ok (.aload_n 0, 1) := by decide +kernel
theorem d_Y_finish_100 : decode c_Y_finish 100 = .ok (.iload_n 1, 1) := by decide +kernel
theorem d_Y_finish_101 : decode c_Y_finish 101 = .ok (.iconst 2, 1) := by decide +kernel
theorem d_Y_finish_102 : decode c_Y_finish 102 = .ok (.iload 5, 2) := by decide +kernel
theorem d_Y_finish_104 : decode c_Y_finish 104 = .ok (.imul, 1) := by decide +kernel
theorem d_Y_finish_105 : decode c_Y_finish 105 = .ok (.iconst 1, 1) := by decide +kernel
theorem d_Y_finish_106 : decode c_Y_finish 106 = .ok (.iadd, 1) := by decide +kernel
theorem d_Y_finish_107 : decode c_Y_finish 107 = .ok (.invokevirtual 101, 3) := by decide +kernel
theorem d_Y_finish_110 : decode c_Y_finish 110 = .ok (.iinc 4 1, 3) := by decide +kernel
theorem d_Y_finish_113 : decode c_Y_finish 113 = .ok (.goto (-101), 3) := by decide +kernel
theorem d_Y_finish_116 : decode c_Y_finish 116 = .ok (.return_, 1) := by decide +kernel
theorem d_Y_form_0 : decode c_Y_form 0 = .ok (.iconst 0, 1) := by decide +kernel
theorem d_Y_form_1 : decode c_Y_form 1 = .ok (.istore_n 2, 1) := by decide +kernel
theorem d_Y_form_2 : decode c_Y_form 2 = .ok (.iconst (-1), 1) := by decide +kernel
theorem d_Y_form_3 : decode c_Y_form 3 = .ok (.istore_n 3, 1) := by decide +kernel
theorem d_Y_form_4 : decode c_Y_form 4 = .ok (.iconst 4, 1) := by decide +kernel
theorem d_Y_form_5 : decode c_Y_form 5 = .ok (.istore 4, 2) := by decide +kernel
theorem d_Y_form_7 : decode c_Y_form 7 = .ok (.iload 4, 2) := by decide +kernel
theorem d_Y_form_9 : decode c_Y_form 9 = .ok (.ifCond .lt 40, 3) := by decide +kernel
theorem d_Y_form_12 : decode c_Y_form 12 = .ok (.aload_n 0, 1) := by decide +kernel
theorem d_Y_form_13 : decode c_Y_form 13 = .ok (.getfield 7, 3) := by decide +kernel
theorem d_Y_form_16 : decode c_Y_form 16 = .ok (.iload 4, 2) := by decide +kernel
theorem d_Y_form_18 : decode c_Y_form 18 = .ok (.baload, 1) := by decide +kernel
theorem d_Y_form_19 : decode c_Y_form 19 = .ok (.ifCond .eq 24, 3) := by decide +kernel
theorem d_Y_form_22 : decode c_Y_form 22 = .ok (.aload_n 0, 1) := by decide +kernel
theorem d_Y_form_23 : decode c_Y_form 23 = .ok (.getfield 13, 3) := by decide +kernel
theorem d_Y_form_26 : decode c_Y_form 26 = .ok (.iload 4, 2) := by decide +kernel
theorem d_Y_form_28 : decode c_Y_form 28 = .ok (.iaload, 1) := by decide +kernel
theorem d_Y_form_29 : decode c_Y_form 29 = .ok (.iload_n 1, 1) := by decide +kernel
theorem d_Y_form_30 : decode c_Y_form 30 = .ok (.if_icmp .ne 13, 3) := by decide +kernel
theorem d_Y_form_33 : decode c_Y_form 33 = .ok (.iload_n 2, 1) := by decide +kernel
theorem d_Y_form_34 : decode c_Y_form 34 = .ok (.iconst 1, 1) := by decide +kernel
theorem d_Y_form_35 : decode c_Y_form 35 = .ok (.iload 4, 2) := by decide +kernel
theorem d_Y_form_37 : decode c_Y_form 37 = .ok (.ishl, 1) := by decide +kernel
theorem d_Y_form_38 : decode c_Y_form 38 = .ok (.ior, 1) := by decide +kernel
theorem d_Y_form_39 : decode c_Y_form 39 = .ok (.istore_n 2, 1) := by decide +kernel
theorem d_Y_form_40 : decode c_Y_form 40 = .ok (.iload 4, 2) := by decide +kernel
theorem d_Y_form_42 : decode c_Y_form 42 = .ok (.istore_n 3, 1) := by decide +kernel
theorem d_Y_form_43 : decode c_Y_form 43 = .ok (.iinc 4 (-1), 3) := by decide +kernel
theorem d_Y_form_46 : decode c_Y_form 46 = .ok (.goto (-39), 3) := by decide +kernel
theorem d_Y_form_49 : decode c_Y_form 49 = .ok (.iconst 0, 1) := by decide +kernel
theorem d_Y_form_50 : decode c_Y_form 50 = .ok (.istore 4, 2) := by decide +kernel
theorem d_Y_form_52 : decode c_Y_form 52 = .ok (.iconst 0, 1) := by decide +kernel
theorem d_Y_form_53 : decode c_Y_form 53 = .ok (.istore 5, 2) := by decide +kernel
theorem d_Y_form_55 : decode c_Y_form 55 = .ok (.iload 5, 2) := by decide +kernel
theorem d_Y_form_57 : decode c_Y_form 57 = .ok (.iconst 5, 1) := by decide +kernel
theorem d_Y_form_58 : decode c_Y_form 58 = .ok (.if_icmp .ge 56, 3) := by decide +kernel
theorem d_Y_form_61 : decode c_Y_form 61 = .ok (.iload_n 2, 1) := by decide +kernel
theorem d_Y_form_62 : decode c_Y_form 62 = .ok (.iload 5, 2) := by decide +kernel
theorem d_Y_form_64 : decode c_Y_form 64 = .ok (.ishr, 1) := by decide +kernel
theorem d_Y_form_65 : decode c_Y_form 65 = .ok (.iconst 1, 1) := by decide +kernel
theorem d_Y_form_66 : decode c_Y_form 66 = .ok (.iand, 1) := by decide +kernel
theorem d_Y_form_67 : decode c_Y_form 67 = .ok (.iconst 1, 1) := by decide +kernel
theorem d_Y_form_68 : decode c_Y_form 68 = .ok (.if_icmp .ne 40, 3) := by decide +kernel
theorem d_Y_form_71 : decode c_Y_form 71 = .ok (.iload 4, 2) := by decide +kernel
theorem d_Y_form_73 : decode c_Y_form 73 = .ok (.iload 5, 2) := by decide +kernel
theorem d_Y_form_75 : decode c_Y_form 75 = .ok (.ishr, 1) := by decide +kernel
theorem d_Y_form_76 : decode c_Y_form 76 = .ok (.iconst 1, 1) := by decide +kernel
theorem d_Y_form_77 : decode c_Y_form 77 = .ok (.iand, 1) := by decide +kernel
theorem d_Y_form_78 : decode c_Y_form 78 = .ok (.ifCond .ne 30, 3) := by decide +kernel
theorem d_Y_form_81 : decode c_Y_form 81 = .ok (.aload_n 0, 1) := by decide +kernel
theorem d_Y_form_82 : decode c_Y_form 82 = .ok (.iload_n 1, 1) := by decide +kernel
theorem d_Y_form_83 : decode c_Y_form 83 = .ok (.aload_n 0, 1) := by decide +kernel
theorem d_Y_form_84 : decode c_Y_form 84 = .ok (.getfield 17, 3) := by decide +kernel
theorem d_Y_form_87 : decode c_Y_form 87 = .ok (.iload 5, 2) := by decide +kernel
theorem d_Y_form_89 : decode c_Y_form 89 = .ok (.iaload, 1) := by decide +kernel
theorem d_Y_form_90 : decode c_Y_form 90 = .ok (.invokevirtual 141, 3) := by decide +kernel
theorem d_Y_form_93 : decode c_Y_form 93 = .ok (.istore 6, 2) := by decide +kernel
theorem d_Y_form_95 : decode c_Y_form 95 = .ok (.aload_n 0, 1) := by decide +kernel
theorem d_Y_form_96 : decode c_Y_form 96 = .ok (.iload 6, 2) := by decide +kernel
theorem d_Y_form_98 : decode c_Y_form 98 = .ok (.invokevirtual 144, 3) := by decide +kernel
theorem d_Y_form_101 : decode c_Y_form 101 = .ok (.iload 4, 2) := by decide +kernel
theorem d_Y_form_103 : decode c_Y_form 103 = .ok (.iload 6, 2) := by decide +kernel
theorem d_Y_form_105 : decode c_Y_form 105 = .ok (.ior, 1) := by decide +kernel
theorem d_Y_form_106 : decode c_Y_form 106 = .ok (.istore 4, 2) := by decide +kernel
theorem d_Y_form_108 : decode c_Y_form 108 = .ok (.iinc 5 1, 3) := by decide +kernel
theorem d_Y_form_111 : decode c_Y_form 111 = .ok (.goto (-56), 3) := by decide +kernel
theorem d_Y_form_114 : decode c_Y_form 114 = .ok (.aload_n 0, 1) := by decide +kernel
theorem d_Y_form_115 : decode c_Y_form 115 = .ok (.iload_n 2, 1) := by decide +kernel
theorem d_Y_form_116 : decode c_Y_form 116 = .ok (.iload_n 3, 1) := by decide +kernel
theorem d_Y_form_117 : decode c_Y_form 117 = .ok (.invokevirtual 147, 3) := by decide +kernel
theorem d_Y_form_120 : decode c_Y_form 120 = .ok (.iconst 0, 1) := by decide +kernel
theorem d_Y_form_121 : decode c_Y_form 121 = .ok (.istore 5, 2) := by decide +kernel
theorem d_Y_form_123 : decode c_Y_form 123 = .ok (.iload 5, 2) := by decide +kernel
theorem d_Y_form_125 : decode c_Y_form 125 = .ok (.iconst 5, 1) := by decide +kernel
theorem d_Y_form_126 : decode c_Y_form 126 = .ok (.if_icmp .ge 25, 3) := by decide +kernel
theorem d_Y_form_129 : decode c_Y_form 129 = .ok (.iload_n 2, 1) := by decide +kernel
theorem d_Y_form_130 : decode c_Y_form 130 = .ok (.iload 5, 2) := by decide +kernel
theorem d_Y_form_132 : decode c_Y_form 132 = .ok (.ishr, 1) := by decide +kernel
theorem d_Y_form_133 : decode c_Y_form 133 = .ok (.iconst 1, 1) := by decide +kernel
theorem d_Y_form_134 : decode c_Y_form 134 = .ok (.iand, 1) := by decide +kernel
theorem d_Y_form_135 : decode c_Y_form 135 = .ok (.iconst 1, 1) := by decide +kernel
theorem d_Y_form_136 : decode c_Y_form 136 = .ok (.if_icmp .ne 9, 3) := by decide +kernel
theorem d_Y_form_139 : decode c_Y_form 139 = .ok (.aload_n 0, 1) := by decide +kernel
theorem d_Y_form_140 : decode c_Y_form 140 = .ok (.iload 5, 2) := by decide +kernel
theorem d_Y_form_142 : decode c_Y_form 142 = .ok (.invokevirtual 150, 3) := by decide +kernel
theorem d_Y_form_145 : decode c_Y_form 145 = .ok (.iinc 5 1, 3) := by decide +kernel
theorem d_Y_form_148 : decode c_Y_form 148 = .ok (.goto (-25), 3) := by decide +kernel
theorem d_Y_form_151 : decode c_Y_form 151 = .ok (.return_, 1) := by decide +kernel
theorem d_Y_tick_0 : decode c_Y_tick 0 = .ok (.aload_n 0, 1) := by decide +kernel
theorem d_Y_tick_1 : decode c_Y_tick 1 = .ok (.iload_n 1, 1) := by decide +kernel
theorem d_Y_tick_2 : decode c_Y_tick 2 = .ok (.invokevirtual 91, 3) := by decide +kernel
theorem d_Y_tick_5 : decode c_Y_tick 5 = .ok (.istore_n 2, 1) := by decide +kernel
theorem d_Y_tick_6 : decode c_Y_tick 6 = .ok (.iload_n 2, 1) := by decide +kernel
theorem d_Y_tick_7 : decode c_Y_tick 7 = .ok (.ifCond .eq 5, 3) := by decide +kernel
theorem d_Y_tick_10 : decode c_Y_tick 10 = .ok (.iload_n 2, 1) := by decide +kernel
theorem d_Y_tick_11 : decode c_Y_tick 11 = .ok (.ireturn, 1) := by decide +kernel
theorem d_Y_tick_12 : decode c_Y_tick 12 = .ok (.aload_n 0, 1) := by decide +kernel
theorem d_Y_tick_13 : decode c_Y_tick 13 = .ok (.getfield 29, 3) := by decide +kernel
theorem d_Y_tick_16 : decode c_Y_tick 16 = .ok (.iload_n 1, 1) := by decide +kernel
theorem d_Y_tick_17 : decode c_Y_tick 17 = .ok (.dup2, 1) := by decide +kernel
theorem d_Y_tick_18 : decode c_Y_tick 18 = .ok (.iaload, 1) := by decide +kernel
theorem d_Y_tick_19 : decode c_Y_tick 19 = .ok (.iconst 1, 1) := by decide +kernel
theorem d_Y_tick_20 : decode c_Y_tick 20 = .ok (.iadd, 1) := by decide +kernel
theorem d_Y_tick_21 : decode c_Y_tick 21 = .ok (.iastore, 1) := by decide +kernel
theorem d_Y_tick_22 : decode c_Y_tick 22 = .ok (.aload_n 0, 1) := by decide +kernel
theorem d_Y_tick_23 : decode c_Y_tick 23 = .ok (.getfield 29, 3) := by decide +kernel
theorem d_Y_tick_26 : decode c_Y_tick 26 = .ok (.iload_n 1, 1) := by decide +kernel
theorem d_Y_tick_27 : decode c_Y_tick 27 = .ok (.iaload, 1) := by decide +kernel
theorem d_Y_tick_28 : decode c_Y_tick 28 = .ok (.iconst 4, 1) := by decide +kernel
theorem d_Y_tick_29 : decode c_Y_tick 29 = .ok (.if_icmp .ge 5, 3) := by decide +kernel
theorem d_Y_tick_32 : decode c_Y_tick 32 = .ok (.iconst 0, 1) := by decide +kernel
theorem d_Y_tick_33 : decode c_Y_tick 33 = .ok (.ireturn, 1) := by decide +kernel
theorem d_Y_tick_34 : decode c_Y_tick 34 = .ok (.aload_n 0, 1) := by decide +kernel
theorem d_Y_tick_35 : decode c_Y_tick 35 = .ok (.aload_n 0, 1) := by decide +kernel
theorem d_Y_tick_36 : decode c_Y_tick 36 = .ok (.getfield 13, 3) := by decide +kernel
theorem d_Y_tick_39 : decode c_Y_tick 39 = .ok (.iload_n 1, 1) := by decide +kernel
theorem d_Y_tick_40 : decode c_Y_tick 40 = .ok (.iaload, 1) := by decide +kernel
theorem d_Y_tick_41 : decode c_Y_tick 41 = .ok (.invokevirtual 129, 3) := by decide +kernel
theorem d_Y_tick_44 : decode c_Y_tick 44 = .ok (.iconst 1, 1) := by decide +kernel
theorem d_Y_tick_45 : decode c_Y_tick 45 = .ok (.ireturn, 1) := by decide +kernel
theorem d_Y_crash_0 : decode c_Y_crash 0 = .ok (.aload_n 0, 1) := by decide +kernel
theorem d_Y_crash_1 : decode c_Y_crash 1 = .ok (.iload_n 1, 1) := by decide +kernel
theorem d_Y_crash_2 : decode c_Y_crash 2 = .ok (.invokevirtual 91, 3) := by decide +kernel
theorem d_Y_crash_5 : decode c_Y_crash 5 = .ok (.ifCond .eq 5, 3) := by decide +kernel
theorem d_Y_crash_8 : decode c_Y_crash 8 = .ok (.iconst 0, 1) := by decide +kernel
theorem d_Y_crash_9 : decode c_Y_crash 9 = .ok (.ireturn, 1) := by decide +kernel
theorem d_Y_crash_10 : decode c_Y_crash 10 = .ok (.aload_n 0, 1) := by decide +kernel
theorem d_Y_crash_11 : decode c_Y_crash 11 = .ok (.getfield 17, 3) := by decide +kernel
theorem d_Y_crash_14 : decode c_Y_crash 14 = .ok (.iload_n 1, 1) := by decide +kernel
theorem d_Y_crash_15 : decode c_Y_crash 15 = .ok (.iaload, 1) := by decide +kernel
theorem d_Y_crash_16 : decode c_Y_crash 16 = .ok (.istore_n 2, 1) := by decide +kernel
theorem d_Y_crash_17 : decode c_Y_crash 17 = .ok (.aload_n 0, 1) := by decide +kernel
theorem d_Y_crash_18 : decode c_Y_crash 18 = .ok (.getfield 56, 3) := by decide +kernel
theorem d_Y_crash_21 : decode c_Y_crash 21 = .ok (.iload_n 2, 1) := by decide +kernel
theorem d_Y_crash_22 : decode c_Y_crash 22 = .ok (.aload_n 0, 1) := by decide +kernel
theorem d_Y_crash_23 : decode c_Y_crash 23 = .ok (.getfield 56, 3) := by decide +kernel
theorem d_Y_crash_26 : decode c_Y_crash 26 = .ok (.iload_n 2, 1) := by decide +kernel
theorem d_Y_crash_27 : decode c_Y_crash 27 = .ok (.iaload, 1) := by decide +kernel
theorem d_Y_crash_28 : decode c_Y_crash 28 = .ok (.iload_n 1, 1) := by decide +kernel
theorem d_Y_crash_29 : decode c_Y_crash 29 = .ok (.if_icmp .ne 7, 3) := by decide +kernel
theorem d_Y_crash_32 : decode c_Y_crash 32 = .ok (.iconst (-1), 1) := by decide +kernel
theorem d_Y_crash_33 : decode c_Y_crash 33 = .ok (.goto 9, 3) := by decide +kernel
theorem d_Y_crash_36 : decode c_Y_crash 36 = .ok (.aload_n 0, 1) := by decide +kernel
theorem d_Y_crash_37 : decode c_Y_crash 37 = .ok (.getfield 56, 3) := by decide +kernel
theorem d_Y_crash_40 : decode c_Y_crash 40 = .ok (.iload_n 2, 1) := by decide +kernel
theorem d_Y_crash_41 : decode c_Y_crash 41 = .ok (.iaload, 1) := by decide +kernel
theorem d_Y_crash_42 : decode c_Y_crash 42 = .ok (.iastore, 1) := by decide +kernel
theorem d_Y_crash_43 : decode c_Y_crash 43 = .ok (.aload_n 0, 1) := by decide +kernel
theorem d_Y_crash_44 : decode c_Y_crash 44 = .ok (.getfield 7, 3) := by decide +kernel
theorem d_Y_crash_47 : decode c_Y_crash 47 = .ok (.iload_n 1, 1) := by decide +kernel
theorem d_Y_crash_48 : decode c_Y_crash 48 = .ok (.iconst 0, 1) := by decide +kernel
theorem d_Y_crash_49 : decode c_Y_crash 49 = .ok (.bastore, 1) := by decide +kernel
theorem d_Y_crash_50 : decode c_Y_crash 50 = .ok (.aload_n 0, 1) := by decide +kernel
theorem d_Y_crash_51 : decode c_Y_crash 51 = .ok (.getfield 26, 3) := by decide +kernel
theorem d_Y_crash_54 : decode c_Y_crash 54 = .ok (.iload_n 1, 1) := by decide +kernel
theorem d_Y_crash_55 : decode c_Y_crash 55 = .ok (.iconst 0, 1) := by decide +kernel
theorem d_Y_crash_56 : decode c_Y_crash 56 = .ok (.iastore, 1) := by decide +kernel
theorem d_Y_crash_57 : decode c_Y_crash 57 = .ok (.iconst 1, 1) := by decide +kernel
theorem d_Y_crash_58 : decode c_Y_crash 58 = .ok (.istore_n 3, 1) := by decide +kernel
theorem d_Y_crash_59 : decode c_Y_crash 59 = .ok (.iload_n 3, 1) := by decide +kernel
theorem d_Y_crash_60 : decode c_Y_crash 60 = .ok (.aload_n 0, 1) := by decide +kernel
theorem d_Y_crash_61 : decode c_Y_crash 61 = .ok (.getfield 80, 3) := by decide +kernel
theorem d_Y_crash_64 : decode c_Y_crash 64 = .ok (.if_icmp .gt 48, 3) := by decide +kernel
theorem d_Y_crash_67 : decode c_Y_crash 67 = .ok (.aload_n 0, 1) := by decide +kernel
theorem d_Y_crash_68 : decode c_Y_crash 68 = .ok (.getfield 47, 3) := by decide +kernel
theorem d_Y_crash_71 : decode c_Y_crash 71 = .ok (.iload_n 3, 1) := by decide +kernel
theorem d_Y_crash_72 : decode c_Y_crash 72 = .ok (.aload_n 0, 1) := by decide +kernel
theorem d_Y_crash_73 : decode c_Y_crash 73 = .ok (.getfield 47, 3) := by decide +kernel
theorem d_Y_crash_76 : decode c_Y_crash 76 = .ok (.iload_n 3, 1) := by decide +kernel
theorem d_Y_crash_77 : decode c_Y_crash 77 = .ok (.baload, 1) := by decide +kernel
theorem d_Y_crash_78 : decode c_Y_crash 78 = .ok (.ifCond .ne 22, 3) := by decide +kernel
theorem d_Y_crash_81 : decode c_Y_crash 81 = .ok (.aload_n 0, 1) := by decide +kernel
theorem d_Y_crash_82 : decode c_Y_crash 82 = .ok (.getfield 41, 3) := by decide +kernel
theorem d_Y_crash_85 : decode c_Y_crash 85 = .ok (.iload_n 3, 1) := by decide +kernel
theorem d_Y_crash_86 : decode c_Y_crash 86 = .ok (.iaload, 1) := by decide +kernel
theorem d_Y_crash_87 : decode c_Y_crash 87 = .ok (.iload_n 1, 1) := by decide +kernel
theorem d_Y_crash_88 : decode c_Y_crash 88 = .ok (.if_icmp .ne 16, 3) := by decide +kernel
theorem d_Y_crash_91 : decode c_Y_crash 91 = .ok (.aload_n 0, 1) := by decide +kernel
theorem d_Y_crash_92 : decode c_Y_crash 92 = .ok (.getfield 53, 3) := by decide +kernel
theorem d_Y_crash_95 : decode c_Y_crash 95 = .ok (.iload_n 3, 1) := by decide +kernel
theorem d_Y_crash_96 : decode c_Y_crash 96 = .ok (.iaload, 1) := by decide +kernel
theorem d_Y_crash_97 : decode c_Y_crash 97 = .ok (.ifCond .ne 7, 3) := by decide +kernel
theorem d_Y_crash_100 : decode c_Y_crash 100 = .ok (.iconst 1, 1) := by decide +kernel
theorem d_Y_crash_101 : decode c_Y_crash 101 = .ok (.goto 4, 3) := by decide +kernel
theorem d_Y_crash_104 : decode c_Y_crash 104 = .ok (.iconst 0, 1) := by decide +kernel
theorem d_Y_crash_105 : decode c_Y_crash 105 = .ok (.bastore, 1) := by decide +kernel
theorem d_Y_crash_106 : decode c_Y_crash 106 = .ok (.iinc 3 1, 3) := by decide +kernel
theorem d_Y_crash_109 : decode c_Y_crash 109 = .ok (.goto (-50), 3) := by decide +kernel
theorem d_Y_crash_112 : decode c_Y_crash 112 = .ok (.iconst 1, 1) := by decide +kernel
theorem d_Y_crash_113 : decode c_Y_crash 113 = .ok (.ireturn, 1) := by decide +kernel
theorem d_Y_restart_0 : decode c_Y_restart 0 = .ok (.iload_n 1, 1) := by decide +kernel
theorem d_Y_restart_1 : decode c_Y_restart 1 = .ok (.invokestatic 76, 3) := by decide +kernel
theorem d_Y_restart_4 : decode c_Y_restart 4 = .ok (.ifCond .ne 12, 3) := by decide +kernel
theorem d_Y_restart_7 : decode c_Y_restart 7 = .ok (.aload_n 0, 1) := by decide +kernel
theorem d_Y_restart_8 : decode c_Y_restart 8 = .ok (.getfield 7, 3) := by decide +kernel
theorem d_Y_restart_11 : decode c_Y_restart 11 = .ok (.iload_n 1, 1) := by decide +kernel
theorem d_Y_restart_12 : decode c_Y_restart 12 = .ok (.baload, 1) := by decide +kernel
theorem d_Y_restart_13 : decode c_Y_restart 13 = .ok (.ifCond .eq 5, 3) := by decide +kernel
theorem d_Y_restart_16 : decode c_Y_restart 16 = .ok (.iconst 0, 1) := by decide +kernel
theorem d_Y_restart_17 : decode c_Y_restart 17 = .ok (.ireturn, 1) := by decide +kernel
theorem d_Y_restart_18 : decode c_Y_restart 18 = .ok (.aload_n 0, 1) := by decide +kernel
theorem d_Y_restart_19 : decode c_Y_restart 19 = .ok (.getfield 7, 3) := by decide +kernel
theorem d_Y_restart_22 : decode c_Y_restart 22 = .ok (.iload_n 1, 1) := by decide +kernel
theorem d_Y_restart_23 : decode c_Y_restart 23 = .ok (.iconst 1, 1) := by decide +kernel
theorem d_Y_restart_24 : decode c_Y_restart 24 = .ok (.bastore, 1) := by decide +kernel
theorem d_Y_restart_25 : decode c_Y_restart 25 = .ok (.aload_n 0, 1) := by decide +kernel
theorem d_Y_restart_26 : decode c_Y_restart 26 = .ok (.iconst 1, 1) := by decide +kernel
theorem d_Y_restart_27 : decode c_Y_restart 27 = .ok (.iload_n 1, 1) := by decide +kernel
theorem d_Y_restart_28 : decode c_Y_restart 28 = .ok (.ishl, 1) := by decide +kernel
theorem d_Y_restart_29 : decode c_Y_restart 29 = .ok (.iload_n 1, 1) := by decide +kernel
theorem d_Y_restart_30 : decode c_Y_restart 30 = .ok (.invokevirtual 147, 3) := by decide +kernel
theorem d_Y_restart_33 : decode c_Y_restart 33 = .ok (.aload_n 0, 1) := by decide +kernel
theorem d_Y_restart_34 : decode c_Y_restart 34 = .ok (.getfield 17, 3) := by decide +kernel
theorem d_Y_restart_37 : decode c_Y_restart 37 = .ok (.iload_n 1, 1) := by decide +kernel
theorem d_Y_restart_38 : decode c_Y_restart 38 = .ok (.aload_n 0, 1) := by decide +kernel
theorem d_Y_restart_39 : decode c_Y_restart 39 = .ok (.getfield 72, 3) := by decide +kernel
theorem d_Y_restart_42 : decode c_Y_restart 42 = .ok (.iastore, 1) := by decide +kernel
theorem d_Y_restart_43 : decode c_Y_restart 43 = .ok (.aload_n 0, 1) := by decide +kernel
theorem d_Y_restart_44 : decode c_Y_restart 44 = .ok (.iload_n 1, 1) := by decide +kernel
theorem d_Y_restart_45 : decode c_Y_restart 45 = .ok (.invokevirtual 135, 3) := by decide +kernel
theorem d_Y_restart_48 : decode c_Y_restart 48 = .ok (.iconst 1, 1) := by decide +kernel
theorem d_Y_restart_49 : decode c_Y_restart 49 = .ok (.ireturn, 1) := by decide +kernel
theorem d_Y_place_0 : decode c_Y_place 0 = .ok (.iload_n 1, 1) := by decide +kernel
theorem d_Y_place_1 : decode c_Y_place 1 = .ok (.invokestatic 76, 3) := by decide +kernel
theorem d_Y_place_4 : decode c_Y_place 4 = .ok (.ifCond .ne 12, 3) := by decide +kernel
theorem d_Y_place_7 : decode c_Y_place 7 = .ok (.iload_n 2, 1) := by decide +kernel
theorem d_Y_place_8 : decode c_Y_place 8 = .ok (.ifCond .lt 8, 3) := by decide +kernel
theorem d_Y_place_11 : decode c_Y_place 11 = .ok (.iload_n 2, 1) := by decide +kernel
theorem d_Y_place_12 : decode c_Y_place 12 = .ok (.iconst 2, 1) := by decide +kernel
theorem d_Y_place_13 : decode c_Y_place 13 = .ok (.if_icmp .le 5, 3) := by decide +kernel
theorem d_Y_place_16 : decode c_Y_place 16 = .ok (.iconst 0, 1) := by decide +kernel
theorem d_Y_place_17 : decode c_Y_place 17 = .ok (.ireturn, 1) := by decide +kernel
theorem d_Y_place_18 : decode c_Y_place 18 = .ok (.aload_n 0, 1) := by decide +kernel
theorem d_Y_place_19 : decode c_Y_place 19 = .ok (.getfield 13, 3) := by decide +kernel
theorem d_Y_place_22 : decode c_Y_place 22 = .ok (.iload_n 1, 1) := by decide +kernel
theorem d_Y_place_23 : decode c_Y_place 23 = .ok (.iload_n 2, 1) := by decide +kernel
theorem d_Y_place_24 : decode c_Y_place 24 = .ok (.iastore, 1) := by decide +kernel
theorem d_Y_place_25 : decode c_Y_place 25 = .ok (.iconst 1, 1) := by decide +kernel
theorem d_Y_place_26 : decode c_Y_place 26 = .ok (.ireturn, 1) := by decide +kernel
theorem d_Y_deafen_0 : decode c_Y_deafen 0 = .ok (.aload_n 0, 1) := by decide +kernel
theorem d_Y_deafen_1 : decode c_Y_deafen 1 = .ok (.iload_n 1, 1) := by decide +kernel
theorem d_Y_deafen_2 : decode c_Y_deafen 2 = .ok (.invokevirtual 91, 3) := by decide +kernel
theorem d_Y_deafen_5 : decode c_Y_deafen 5 = .ok (.ifCond .ne 13, 3) := by decide +kernel
theorem d_Y_deafen_8 : decode c_Y_deafen 8 = .ok (.iload_n 2, 1) := by decide +kernel
theorem d_Y_deafen_9 : decode c_Y_deafen 9 = .ok (.ifCond .lt 9, 3) := by decide +kernel
theorem d_Y_deafen_12 : decode c_Y_deafen 12 = .ok (.iload_n 2, 1) := by decide +kernel
theorem d_Y_deafen_13 : decode c_Y_deafen 13 = .ok (.bipush 20, 2) := by decide +kernel
theorem d_Y_deafen_15 : decode c_Y_deafen 15 = .ok (.if_icmp .le 5, 3) := by decide +kernel
theorem d_Y_deafen_18 : decode c_Y_deafen 18 = .ok (.iconst 0, 1) := by decide +kernel
theorem d_Y_deafen_19 : decode c_Y_deafen 19 = .ok (.ireturn, 1) := by decide +kernel
theorem d_Y_deafen_20 : decode c_Y_deafen 20 = .ok (.aload_n 0, 1) := by decide +kernel
theorem d_Y_deafen_21 : decode c_Y_deafen 21 = .ok (.getfield 26, 3) := by decide +kernel
theorem d_Y_deafen_24 : decode c_Y_deafen 24 = .ok (.iload_n 1, 1) := by decide +kernel
theorem d_Y_deafen_25 : decode c_Y_deafen 25 = .ok (.iload_n 2, 1) := by decide +kernel
theorem d_Y_deafen_26 : decode c_Y_deafen 26 = .ok (.iastore, 1) := by decide +kernel
theorem d_Y_deafen_27 : decode c_Y_deafen 27 = .ok (.iconst 1, 1) := by decide +kernel
theorem d_Y_deafen_28 : decode c_Y_deafen 28 = .ok (.ireturn, 1) := by decide +kernel
theorem d_Y_drop_0 : decode c_Y_drop 0 = .ok (.aload_n 0, 1) := by decide +kernel
theorem d_Y_drop_1 : decode c_Y_drop 1 = .ok (.iload_n 1, 1) := by decide +kernel
theorem d_Y_drop_2 : decode c_Y_drop 2 = .ok (.invokevirtual 91, 3) := by decide +kernel
theorem d_Y_drop_5 : decode c_Y_drop 5 = .ok (.ifCond .ne 18, 3) := by decide +kernel
theorem d_Y_drop_8 : decode c_Y_drop 8 = .ok (.aload_n 0, 1) := by decide +kernel
theorem d_Y_drop_9 : decode c_Y_drop 9 = .ok (.getfield 56, 3) := by decide +kernel
theorem d_Y_drop_12 : decode c_Y_drop 12 = .ok (.aload_n 0, 1) := by decide +kernel
theorem d_Y_drop_13 : decode c_Y_drop 13 = .ok (.getfield 17, 3) := by decide +kernel
theorem d_Y_drop_16 : decode c_Y_drop 16 = .ok (.iload_n 1, 1) := by decide +kernel
theorem d_Y_drop_17 : decode c_Y_drop 17 = .ok (.iaload, 1) := by decide +kernel
theorem d_Y_drop_18 : decode c_Y_drop 18 = .ok (.iaload, 1) := by decide +kernel
theorem d_Y_drop_19 : decode c_Y_drop 19 = .ok (.iconst (-1), 1) := by decide +kernel
theorem d_Y_drop_20 : decode c_Y_drop 20 = .ok (.if_icmp .ne 5, 3) := by decide +kernel
theorem d_Y_drop_23 : decode c_Y_drop 23 = .ok (.iconst 0, 1) := by decide +kernel
theorem d_Y_drop_24 : decode c_Y_drop 24 = .ok (.ireturn, 1) := by decide +kernel
theorem d_Y_drop_25 : decode c_Y_drop 25 = .ok (.aload_n 0, 1) := by decide +kernel
theorem d_Y_drop_26 : decode c_Y_drop 26 = .ok (.getfield 56, 3) := by decide +kernel
theorem d_Y_drop_29 : decode c_Y_drop 29 = .ok (.aload_n 0, 1) := by decide +kernel
theorem d_Y_drop_30 : decode c_Y_drop 30 = .ok (.getfield 17, 3) := by decide +kernel
theorem d_Y_drop_33 : decode c_Y_drop 33 = .ok (.iload_n 1, 1) := by decide +kernel
theorem d_Y_drop_34 : decode c_Y_drop 34 = .ok (.iaload, 1) := by decide +kernel
theorem d_Y_drop_35 : decode c_Y_drop 35 = .ok (.iconst (-1), 1) := by decide +kernel
theorem d_Y_drop_36 : decode c_Y_drop 36 = .ok (.iastore, 1) := by decide +kernel
theorem d_Y_drop_37 : decode c_Y_drop 37 = .ok (.iconst 1, 1) := by decide +kernel
theorem d_Y_drop_38 : decode c_Y_drop 38 = .ok (.ireturn, 1) := by decide +kernel
theorem d_Y_ring_0 : decode c_Y_ring 0 = .ok (.aload_n 0, 1) := by decide +kernel
theorem d_Y_ring_1 : decode c_Y_ring 1 = .ok (.iload_n 1, 1) := by decide +kernel
theorem d_Y_ring_2 : decode c_Y_ring 2 = .ok (.invokevirtual 91, 3) := by decide +kernel
theorem d_Y_ring_5 : decode c_Y_ring 5 = .ok (.istore_n 2, 1) := by decide +kernel
theorem d_Y_ring_6 : decode c_Y_ring 6 = .ok (.iload_n 2, 1) := by decide +kernel
theorem d_Y_ring_7 : decode c_Y_ring 7 = .ok (.ifCond .eq 7, 3) := by decide +kernel
theorem d_Y_ring_10 : decode c_Y_ring 10 = .ok (.iload_n 2, 1) := by decide +kernel
theorem d_Y_ring_11 : decode c_Y_ring 11 = .ok (.goto 9, 3) := by decide +kernel
theorem d_Y_ring_14 : decode c_Y_ring 14 = .ok (.aload_n 0, 1) := by decide +kernel
theorem d_Y_ring_15 : decode c_Y_ring 15 = .ok (.getfield 17, 3) := by decide +kernel
theorem d_Y_ring_18 : decode c_Y_ring 18 = .ok (.iload_n 1, 1) := by decide +kernel
theorem d_Y_ring_19 : decode c_Y_ring 19 = .ok (.iaload, 1) := by decide +kernel
theorem d_Y_ring_20 : decode c_Y_ring 20 = .ok (.ireturn, 1) := by decide +kernel
theorem d_Y_members_0 : decode c_Y_members 0 = .ok (.aload_n 0, 1) := by decide +kernel
theorem d_Y_members_1 : decode c_Y_members 1 = .ok (.iload_n 1, 1) := by decide +kernel
theorem d_Y_members_2 : decode c_Y_members 2 = .ok (.invokevirtual 91, 3) := by decide +kernel
theorem d_Y_members_5 : decode c_Y_members 5 = .ok (.istore_n 2, 1) := by decide +kernel
theorem d_Y_members_6 : decode c_Y_members 6 = .ok (.iload_n 2, 1) := by decide +kernel
theorem d_Y_members_7 : decode c_Y_members 7 = .ok (.ifCond .eq 7, 3) := by decide +kernel
theorem d_Y_members_10 : decode c_Y_members 10 = .ok (.iload_n 2, 1) := by decide +kernel
theorem d_Y_members_11 : decode c_Y_members 11 = .ok (.goto 14, 3) := by decide +kernel
theorem d_Y_members_14 : decode c_Y_members 14 = .ok (.aload_n 0, 1) := by decide +kernel
theorem d_Y_members_15 : decode c_Y_members 15 = .ok (.getfield 62, 3) := by decide +kernel
theorem d_Y_members_18 : decode c_Y_members 18 = .ok (.aload_n 0, 1) := by decide +kernel
theorem d_Y_members_19 : decode c_Y_members 19 = .ok (.getfield 17, 3) := by decide +kernel
theorem d_Y_members_22 : decode c_Y_members 22 = .ok (.iload_n 1, 1) := by decide +kernel
theorem d_Y_members_23 : decode c_Y_members 23 = .ok (.iaload, 1) := by decide +kernel
theorem d_Y_members_24 : decode c_Y_members 24 = .ok (.iaload, 1) := by decide +kernel
theorem d_Y_members_25 : decode c_Y_members 25 = .ok (.ireturn, 1) := by decide +kernel
theorem d_Y_token_0 : decode c_Y_token 0 = .ok (.aload_n 0, 1) := by decide +kernel
theorem d_Y_token_1 : decode c_Y_token 1 = .ok (.iload_n 1, 1) := by decide +kernel
theorem d_Y_token_2 : decode c_Y_token 2 = .ok (.invokevirtual 91, 3) := by decide +kernel
theorem d_Y_token_5 : decode c_Y_token 5 = .ok (.istore_n 2, 1) := by decide +kernel
theorem d_Y_token_6 : decode c_Y_token 6 = .ok (.iload_n 2, 1) := by decide +kernel
theorem d_Y_token_7 : decode c_Y_token 7 = .ok (.ifCond .eq 7, 3) := by decide +kernel
theorem d_Y_token_10 : decode c_Y_token 10 = .ok (.iload_n 2, 1) := by decide +kernel
theorem d_Y_token_11 : decode c_Y_token 11 = .ok (.goto 14, 3) := by decide +kernel
theorem d_Y_token_14 : decode c_Y_token 14 = .ok (.aload_n 0, 1) := by decide +kernel
theorem d_Y_token_15 : decode c_Y_token 15 = .ok (.getfield 56, 3) := by decide +kernel
theorem d_Y_token_18 : decode c_Y_token 18 = .ok (.aload_n 0, 1) := by decide +kernel
theorem d_Y_token_19 : decode c_Y_token 19 = .ok (.getfield 17, 3) := by decide +kernel
theorem d_Y_token_22 : decode c_Y_token 22 = .ok (.iload_n 1, 1) := by decide +kernel
theorem d_Y_token_23 : decode c_Y_token 23 = .ok (.iaload, 1) := by decide +kernel
theorem d_Y_token_24 : decode c_Y_token 24 = .ok (.iaload, 1) := by decide +kernel
theorem d_Y_token_25 : decode c_Y_token 25 = .ok (.ireturn, 1) := by decide +kernel
theorem d_Y_last_0 : decode c_Y_last 0 = .ok (.aload_n 0, 1) := by decide +kernel
theorem d_Y_last_1 : decode c_Y_last 1 = .ok (.iload_n 1, 1) := by decide +kernel
theorem d_Y_last_2 : decode c_Y_last 2 = .ok (.invokevirtual 91, 3) := by decide +kernel
theorem d_Y_last_5 : decode c_Y_last 5 = .ok (.istore_n 2, 1) := by decide +kernel
theorem d_Y_last_6 : decode c_Y_last 6 = .ok (.iload_n 2, 1) := by decide +kernel
theorem d_Y_last_7 : decode c_Y_last 7 = .ok (.ifCond .eq 7, 3) := by decide +kernel
theorem d_Y_last_10 : decode c_Y_last 10 = .ok (.iload_n 2, 1) := by decide +kernel
theorem d_Y_last_11 : decode c_Y_last 11 = .ok (.goto 33, 3) := by decide +kernel
theorem d_Y_last_14 : decode c_Y_last 14 = .ok (.aload_n 0, 1) := by decide +kernel
theorem d_Y_last_15 : decode c_Y_last 15 = .ok (.getfield 56, 3) := by decide +kernel
theorem d_Y_last_18 : decode c_Y_last 18 = .ok (.aload_n 0, 1) := by decide +kernel
theorem d_Y_last_19 : decode c_Y_last 19 = .ok (.getfield 17, 3) := by decide +kernel
theorem d_Y_last_22 : decode c_Y_last 22 = .ok (.iload_n 1, 1) := by decide +kernel
theorem d_Y_last_23 : decode c_Y_last 23 = .ok (.iaload, 1) := by decide +kernel
theorem d_Y_last_24 : decode c_Y_last 24 = .ok (.iaload, 1) := by decide +kernel
theorem d_Y_last_25 : decode c_Y_last 25 = .ok (.iconst (-1), 1) := by decide +kernel
theorem d_Y_last_26 : decode c_Y_last 26 = .ok (.if_icmp .ne 7, 3) := by decide +kernel
theorem d_Y_last_29 : decode c_Y_last 29 = .ok (.iconst (-1), 1) := by decide +kernel
theorem d_Y_last_30 : decode c_Y_last 30 = .ok (.goto 14, 3) := by decide +kernel
theorem d_Y_last_33 : decode c_Y_last 33 = .ok (.aload_n 0, 1) := by decide +kernel
theorem d_Y_last_34 : decode c_Y_last 34 = .ok (.getfield 59, 3) := by decide +kernel
theorem d_Y_last_37 : decode c_Y_last 37 = .ok (.aload_n 0, 1) := by decide +kernel
theorem d_Y_last_38 : decode c_Y_last 38 = .ok (.getfield 17, 3) := by decide +kernel
theorem d_Y_last_41 : decode c_Y_last 41 = .ok (.iload_n 1, 1) := by decide +kernel
theorem d_Y_last_42 : decode c_Y_last 42 = .ok (.iaload, 1) := by decide +kernel
theorem d_Y_last_43 : decode c_Y_last 43 = .ok (.iaload, 1) := by decide +kernel
theorem d_Y_last_44 : decode c_Y_last 44 = .ok (.ireturn, 1) := by decide +kernel
theorem d_Y_requests_0 : decode c_Y_requests 0 = .ok (.aload_n 0, 1) := by decide +kernel
theorem d_Y_requests_1 : decode c_Y_requests 1 = .ok (.iload_n 1, 1) := by decide +kernel
theorem d_Y_requests_2 : decode c_Y_requests 2 = .ok (.invokevirtual 91, 3) := by decide +kernel
theorem d_Y_requests_5 : decode c_Y_requests 5 = .ok (.istore_n 2, 1) := by decide +kernel
theorem d_Y_requests_6 : decode c_Y_requests 6 = .ok (.iload_n 2, 1) := by decide +kernel
theorem d_Y_requests_7 : decode c_Y_requests 7 = .ok (.ifCond .eq 5, 3) := by decide +kernel
theorem d_Y_requests_10 : decode c_Y_requests 10 = .ok (.iload_n 2, 1) := by decide +kernel
theorem d_Y_requests_11 : decode c_Y_requests 11 = .ok (.ireturn, 1) := by decide +kernel
theorem d_Y_requests_12 : decode c_Y_requests 12 = .ok (.aload_n 0, 1) := by decide +kernel
theorem d_Y_requests_13 : decode c_Y_requests 13 = .ok (.getfield 17, 3) := by decide +kernel
theorem d_Y_requests_16 : decode c_Y_requests 16 = .ok (.iload_n 1, 1) := by decide +kernel
theorem d_Y_requests_17 : decode c_Y_requests 17 = .ok (.iaload, 1) := by decide +kernel
theorem d_Y_requests_18 : decode c_Y_requests 18 = .ok (.istore_n 3, 1) := by decide +kernel
theorem d_Y_requests_19 : decode c_Y_requests 19 = .ok (.iconst 0, 1) := by decide +kernel
theorem d_Y_requests_20 : decode c_Y_requests 20 = .ok (.istore 4, 2) := by decide +kernel
theorem d_Y_requests_22 : decode c_Y_requests 22 = .ok (.iconst 1, 1) := by decide +kernel
theorem d_Y_requests_23 : decode c_Y_requests 23 = .ok (.istore 5, 2) := by decide +kernel
theorem d_Y_requests_25 : decode c_Y_requests 25 = .ok (.iload 5, 2) := by decide +kernel
theorem d_Y_requests_27 : decode c_Y_requests 27 = .ok (.bipush 48, 2) := by decide +kernel
theorem d_Y_requests_29 : decode c_Y_requests 29 = .ok (.if_icmp .gt 26, 3) := by decide +kernel
theorem d_Y_requests_32 : decode c_Y_requests 32 = .ok (.iload 4, 2) := by decide +kernel
theorem d_Y_requests_34 : decode c_Y_requests 34 = .ok (.aload_n 0, 1) := by decide +kernel
theorem d_Y_requests_35 : decode c_Y_requests 35 = .ok (.getfield 68, 3) := by decide +kernel
theorem d_Y_requests_38 : decode c_Y_requests 38 = .ok (.iload_n 3, 1) := by decide +kernel
theorem d_Y_requests_39 : decode c_Y_requests 39 = .ok (.laload, 1) := by decide +kernel
theorem d_Y_requests_40 : decode c_Y_requests 40 = .ok (.iload 5, 2) := by decide +kernel
theorem d_Y_requests_42 : decode c_Y_requests 42 = .ok (.lshr, 1) := by decide +kernel
theorem d_Y_requests_43 : decode c_Y_requests 43 = .ok (.lconst 1, 1) := by decide +kernel
theorem d_Y_requests_44 : decode c_Y_requests 44 = .ok (.land, 1) := by decide +kernel
theorem d_Y_requests_45 : decode c_Y_requests 45 = .ok (.l2i, 1) := by decide +kernel
theorem d_Y_requests_46 : decode c_Y_requests 46 = .ok (.iadd, 1) := by decide +kernel
theorem d_Y_requests_47 : decode c_Y_requests 47 = .ok (.istore 4, 2) := by decide +kernel
theorem d_Y_requests_49 : decode c_Y_requests 49 = .ok (.iinc 5 1, 3) := by decide +kernel
theorem d_Y_requests_52 : decode c_Y_requests 52 = .ok (.goto (-27), 3) := by decide +kernel
theorem d_Y_requests_55 : decode c_Y_requests 55 = .ok (.aload_n 0, 1) := by decide +kernel
theorem d_Y_requests_56 : decode c_Y_requests 56 = .ok (.getfield 56, 3) := by decide +kernel
theorem d_Y_requests_59 : decode c_Y_requests 59 = .ok (.iload_n 3, 1) := by decide +kernel
theorem d_Y_requests_60 : decode c_Y_requests 60 = .ok (.iaload, 1) := by decide +kernel
theorem d_Y_requests_61 : decode c_Y_requests 61 = .ok (.iconst (-1), 1) := by decide +kernel
theorem d_Y_requests_62 : decode c_Y_requests 62 = .ok (.if_icmp .ne 7, 3) := by decide +kernel
theorem d_Y_requests_65 : decode c_Y_requests 65 = .ok (.iconst (-1), 1) := by decide +kernel
theorem d_Y_requests_66 : decode c_Y_requests 66 = .ok (.goto 5, 3) := by decide +kernel
theorem d_Y_requests_69 : decode c_Y_requests 69 = .ok (.iload 4, 2) := by decide +kernel
theorem d_Y_requests_71 : decode c_Y_requests 71 = .ok (.ireturn, 1) := by decide +kernel
theorem d_Y_reach_0 : decode c_Y_reach 0 = .ok (.aload_n 0, 1) := by decide +kernel
theorem d_Y_reach_1 : decode c_Y_reach 1 = .ok (.iload_n 1, 1) := by decide +kernel
theorem d_Y_reach_2 : decode c_Y_reach 2 = .ok (.invokevirtual 91, 3) := by decide +kernel
theorem d_Y_reach_5 : decode c_Y_reach 5 = .ok (.istore_n 2, 1) := by decide +kernel
theorem d_Y_reach_6 : decode c_Y_reach 6 = .ok (.iload_n 2, 1) := by decide +kernel
theorem d_Y_reach_7 : decode c_Y_reach 7 = .ok (.ifCond .eq 7, 3) := by decide +kernel
theorem d_Y_reach_10 : decode c_Y_reach 10 = .ok (.iload_n 2, 1) := by decide +kernel
theorem d_Y_reach_11 : decode c_Y_reach 11 = .ok (.goto 8, 3) := by decide +kernel
theorem d_Y_reach_14 : decode c_Y_reach 14 = .ok (.aload_n 0, 1) := by decide +kernel
theorem d_Y_reach_15 : decode c_Y_reach 15 = .ok (.iload_n 1, 1) := by decide +kernel
theorem d_Y_reach_16 : decode c_Y_reach 16 = .ok (.invokevirtual 119, 3) := by decide +kernel
theorem d_Y_reach_19 : decode c_Y_reach 19 = .ok (.ireturn, 1) := by decide +kernel
theorem d_Y_line_0 : decode c_Y_line 0 = .ok (.aload_n 0, 1) := by decide +kernel
theorem d_Y_line_1 : decode c_Y_line 1 = .ok (.iload_n 1, 1) := by decide +kernel
theorem d_Y_line_2 : decode c_Y_line 2 = .ok (.invokevirtual 91, 3) := by decide +kernel
theorem d_Y_line_5 : decode c_Y_line 5 = .ok (.istore_n 2, 1) := by decide +kernel
theorem d_Y_line_6 : decode c_Y_line 6 = .ok (.iload_n 2, 1) := by decide +kernel
theorem d_Y_line_7 : decode c_Y_line 7 = .ok (.ifCond .eq 7, 3) := by decide +kernel
theorem d_Y_line_10 : decode c_Y_line 10 = .ok (.iload_n 2, 1) := by decide +kernel
theorem d_Y_line_11 : decode c_Y_line 11 = .ok (.goto 9, 3) := by decide +kernel
theorem d_Y_line_14 : decode c_Y_line 14 = .ok (.aload_n 0, 1) := by decide +kernel
theorem d_Y_line_15 : decode c_Y_line 15 = .ok (.getfield 20, 3) := by decide +kernel
theorem d_Y_line_18 : decode c_Y_line 18 = .ok (.iload_n 1, 1) := by decide +kernel
theorem d_Y_line_19 : decode c_Y_line 19 = .ok (.iaload, 1) := by decide +kernel
theorem d_Y_line_20 : decode c_Y_line 20 = .ok (.ireturn, 1) := by decide +kernel
theorem d_Y_waiting_0 : decode c_Y_waiting 0 = .ok (.aload_n 0, 1) := by decide +kernel
theorem d_Y_waiting_1 : decode c_Y_waiting 1 = .ok (.iload_n 1, 1) := by decide +kernel
theorem d_Y_waiting_2 : decode c_Y_waiting 2 = .ok (.invokevirtual 91, 3) := by decide +kernel
theorem d_Y_waiting_5 : decode c_Y_waiting 5 = .ok (.istore_n 2, 1) := by decide +kernel
theorem d_Y_waiting_6 : decode c_Y_waiting 6 = .ok (.iload_n 2, 1) := by decide +kernel
theorem d_Y_waiting_7 : decode c_Y_waiting 7 = .ok (.ifCond .eq 7, 3) := by decide +kernel
theorem d_Y_waiting_10 : decode c_Y_waiting 10 = .ok (.iload_n 2, 1) := by decide +kernel
theorem d_Y_waiting_11 : decode c_Y_waiting 11 = .ok (.goto 8, 3) := by decide +kernel
theorem d_Y_waiting_14 : decode c_Y_waiting 14 = .ok (.aload_n 0, 1) := by decide +kernel
theorem d_Y_waiting_15 : decode c_Y_waiting 15 = .ok (.iload_n 1, 1) := by decide +kernel
theorem d_Y_waiting_16 : decode c_Y_waiting 16 = .ok (.invokevirtual 95, 3) := by decide +kernel
theorem d_Y_waiting_19 : decode c_Y_waiting 19 = .ok (.ireturn, 1) := by decide +kernel
theorem d_Y_delivered_0 : decode c_Y_delivered 0 = .ok (.iload_n 1, 1) := by decide +kernel
theorem d_Y_delivered_1 : decode c_Y_delivered 1 = .ok (.invokestatic 76, 3) := by decide +kernel
theorem d_Y_delivered_4 : decode c_Y_delivered 4 = .ok (.ifCond .eq 8, 3) := by decide +kernel
theorem d_Y_delivered_7 : decode c_Y_delivered 7 = .ok (.bipush (-3), 2) := by decide +kernel
theorem d_Y_delivered_9 : decode c_Y_delivered 9 = .ok (.goto 9, 3) := by decide +kernel
theorem d_Y_delivered_12 : decode c_Y_delivered 12 = .ok (.aload_n 0, 1) := by decide +kernel
theorem d_Y_delivered_13 : decode c_Y_delivered 13 = .ok (.getfield 38, 3) := by decide +kernel
theorem d_Y_delivered_16 : decode c_Y_delivered 16 = .ok (.iload_n 1, 1) := by decide +kernel
theorem d_Y_delivered_17 : decode c_Y_delivered 17 = .ok (.iaload, 1) := by decide +kernel
theorem d_Y_delivered_18 : decode c_Y_delivered 18 = .ok (.ireturn, 1) := by decide +kernel
theorem d_Y_log_0 : decode c_Y_log 0 = .ok (.iload_n 1, 1) := by decide +kernel
theorem d_Y_log_1 : decode c_Y_log 1 = .ok (.invokestatic 76, 3) := by decide +kernel
theorem d_Y_log_4 : decode c_Y_log 4 = .ok (.ifCond .ne 17, 3) := by decide +kernel
theorem d_Y_log_7 : decode c_Y_log 7 = .ok (.iload_n 2, 1) := by decide +kernel
theorem d_Y_log_8 : decode c_Y_log 8 = .ok (.ifCond .lt 13, 3) := by decide +kernel
theorem d_Y_log_11 : decode c_Y_log 11 = .ok (.iload_n 2, 1) := by decide +kernel
theorem d_Y_log_12 : decode c_Y_log 12 = .ok (.aload_n 0, 1) := by decide +kernel
theorem d_Y_log_13 : decode c_Y_log 13 = .ok (.getfield 38, 3) := by decide +kernel
theorem d_Y_log_16 : decode c_Y_log 16 = .ok (.iload_n 1, 1) := by decide +kernel
theorem d_Y_log_17 : decode c_Y_log 17 = .ok (.iaload, 1) := by decide +kernel
theorem d_Y_log_18 : decode c_Y_log 18 = .ok (.if_icmp .lt 8, 3) := by decide +kernel
theorem d_Y_log_21 : decode c_Y_log 21 = .ok (.bipush (-3), 2) := by decide +kernel
theorem d_Y_log_23 : decode c_Y_log 23 = .ok (.goto 14, 3) := by decide +kernel
theorem d_Y_log_26 : decode c_Y_log 26 = .ok (.aload_n 0, 1) := by decide +kernel
theorem d_Y_log_27 : decode c_Y_log 27 = .ok (.getfield 35, 3) := by decide +kernel
theorem d_Y_log_30 : decode c_Y_log 30 = .ok (.bipush 48, 2) := by decide +kernel
theorem d_Y_log_32 : decode c_Y_log 32 = .ok (.iload_n 1, 1) := by decide +kernel
theorem d_Y_log_33 : decode c_Y_log 33 = .ok (.imul, 1) := by decide +kernel
theorem d_Y_log_34 : decode c_Y_log 34 = .ok (.iload_n 2, 1) := by decide +kernel
theorem d_Y_log_35 : decode c_Y_log 35 = .ok (.iadd, 1) := by decide +kernel
theorem d_Y_log_36 : decode c_Y_log 36 = .ok (.iaload, 1) := by decide +kernel
theorem d_Y_log_37 : decode c_Y_log 37 = .ok (.ireturn, 1) := by decide +kernel
theorem d_Y_stamp_0 : decode c_Y_stamp 0 = .ok (.iload_n 1, 1) := by decide +kernel
theorem d_Y_stamp_1 : decode c_Y_stamp 1 = .ok (.iconst 1, 1) := by decide +kernel
theorem d_Y_stamp_2 : decode c_Y_stamp 2 = .ok (.if_icmp .lt 11, 3) := by decide +kernel
theorem d_Y_stamp_5 : decode c_Y_stamp 5 = .ok (.iload_n 1, 1) := by decide +kernel
theorem d_Y_stamp_6 : decode c_Y_stamp 6 = .ok (.aload_n 0, 1) := by decide +kernel
theorem d_Y_stamp_7 : decode c_Y_stamp 7 = .ok (.getfield 80, 3) := by decide +kernel
theorem d_Y_stamp_10 : decode c_Y_stamp 10 = .ok (.if_icmp .le 8, 3) := by decide +kernel
theorem d_Y_stamp_13 : decode c_Y_stamp 13 = .ok (.bipush (-3), 2) := by decide +kernel
theorem d_Y_stamp_15 : decode c_Y_stamp 15 = .ok (.goto 32, 3) := by decide +kernel
theorem d_Y_stamp_18 : decode c_Y_stamp 18 = .ok (.aload_n 0, 1) := by decide +kernel
theorem d_Y_stamp_19 : decode c_Y_stamp 19 = .ok (.getfield 53, 3) := by decide +kernel
theorem d_Y_stamp_22 : decode c_Y_stamp 22 = .ok (.iload_n 1, 1) := by decide +kernel
theorem d_Y_stamp_23 : decode c_Y_stamp 23 = .ok (.iaload, 1) := by decide +kernel
theorem d_Y_stamp_24 : decode c_Y_stamp 24 = .ok (.ifCond .ne 7, 3) := by decide +kernel
theorem d_Y_stamp_27 : decode c_Y_stamp 27 = .ok (.iconst 0, 1) := by decide +kernel
theorem d_Y_stamp_28 : decode c_Y_stamp 28 = .ok (.goto 19, 3) := by decide +kernel
theorem d_Y_stamp_31 : decode c_Y_stamp 31 = .ok (.aload_n 0, 1) := by decide +kernel
theorem d_Y_stamp_32 : decode c_Y_stamp 32 = .ok (.getfield 53, 3) := by decide +kernel
theorem d_Y_stamp_35 : decode c_Y_stamp 35 = .ok (.iload_n 1, 1) := by decide +kernel
theorem d_Y_stamp_36 : decode c_Y_stamp 36 = .ok (.iaload, 1) := by decide +kernel
theorem d_Y_stamp_37 : decode c_Y_stamp 37 = .ok (.bipush 64, 2) := by decide +kernel
theorem d_Y_stamp_39 : decode c_Y_stamp 39 = .ok (.aload_n 0, 1) := by decide +kernel
theorem d_Y_stamp_40 : decode c_Y_stamp 40 = .ok (.getfield 50, 3) := by decide +kernel
theorem d_Y_stamp_43 : decode c_Y_stamp 43 = .ok (.iload_n 1, 1) := by decide +kernel
theorem d_Y_stamp_44 : decode c_Y_stamp 44 = .ok (.iaload, 1) := by decide +kernel
theorem d_Y_stamp_45 : decode c_Y_stamp 45 = .ok (.imul, 1) := by decide +kernel
theorem d_Y_stamp_46 : decode c_Y_stamp 46 = .ok (.iadd, 1) := by decide +kernel
theorem d_Y_stamp_47 : decode c_Y_stamp 47 = .ok (.ireturn, 1) := by decide +kernel
theorem d_M_init_0 : decode c_M_init 0 = .ok (.aload_n 0, 1) := by decide +kernel
theorem d_M_init_1 : decode c_M_init 1 = .ok (.invokespecial 3, 3) := by decide +kernel
theorem d_M_init_4 : decode c_M_init 4 = .ok (.aload_n 0, 1) := by decide +kernel
theorem d_M_init_5 : decode c_M_init 5 = .ok (.bipush 49, 2) := by decide +kernel
theorem d_M_init_7 : decode c_M_init 7 = .ok (.newarray .int, 2) := by decide +kernel
theorem d_M_init_9 : decode c_M_init 9 = .ok (.putfield 9, 3) := by decide +kernel
theorem d_M_init_12 : decode c_M_init 12 = .ok (.aload_n 0, 1) := by decide +kernel
theorem d_M_init_13 : decode c_M_init 13 = .ok (.bipush 49, 2) := by decide +kernel
theorem d_M_init_15 : decode c_M_init 15 = .ok (.newarray .boolean, 2) := by decide +kernel
theorem d_M_init_17 : decode c_M_init 17 = .ok (.putfield 15, 3) := by decide +kernel
theorem d_M_init_20 : decode c_M_init 20 = .ok (.aload_n 0, 1) := by decide +kernel
theorem d_M_init_21 : decode c_M_init 21 = .ok (.bipush 49, 2) := by decide +kernel
theorem d_M_init_23 : decode c_M_init 23 = .ok (.newarray .int, 2) := by decide +kernel
theorem d_M_init_25 : decode c_M_init 25 = .ok (.putfield 19, 3) := by decide +kernel
theorem d_M_init_28 : decode c_M_init 28 = .ok (.return_, 1) := by decide +kernel
theorem d_M_take_0 : decode c_M_take 0 = .ok (.aload_n 0, 1) := by decide +kernel
theorem d_M_take_1 : decode c_M_take 1 = .ok (.dup, 1) := by decide +kernel
theorem d_M_take_2 : decode c_M_take 2 = .ok (.getfield 22, 3) := by decide +kernel
theorem d_M_take_5 : decode c_M_take 5 = .ok (.iconst 1, 1) := by decide +kernel
theorem d_M_take_6 : decode c_M_take 6 = .ok (.iadd, 1) := by decide +kernel
theorem d_M_take_7 : decode c_M_take 7 = .ok (.putfield 22, 3) := by decide +kernel
theorem d_M_take_10 : decode c_M_take 10 = .ok (.aload_n 0, 1) := by decide +kernel
theorem d_M_take_11 : decode c_M_take 11 = .ok (.getfield 9, 3) := by decide +kernel
theorem d_M_take_14 : decode c_M_take 14 = .ok (.aload_n 0, 1) := by decide +kernel
theorem d_M_take_15 : decode c_M_take 15 = .ok (.getfield 22, 3) := by decide +kernel
theorem d_M_take_18 : decode c_M_take 18 = .ok (.iload_n 1, 1) := by decide +kernel
theorem d_M_take_19 : decode c_M_take 19 = .ok (.iastore, 1) := by decide +kernel
theorem d_M_take_20 : decode c_M_take 20 = .ok (.aload_n 0, 1) := by decide +kernel
theorem d_M_take_21 : decode c_M_take 21 = .ok (.getfield 15, 3) := by decide +kernel
theorem d_M_take_24 : decode c_M_take 24 = .ok (.aload_n 0, 1) := by decide +kernel
theorem d_M_take_25 : decode c_M_take 25 = .ok (.getfield 22, 3) := by decide +kernel
theorem d_M_take_28 : decode c_M_take 28 = .ok (.iload_n 2, 1) := by decide +kernel
theorem d_M_take_29 : decode c_M_take 29 = .ok (.bastore, 1) := by decide +kernel
theorem d_M_take_30 : decode c_M_take 30 = .ok (.aload_n 0, 1) := by decide +kernel
theorem d_M_take_31 : decode c_M_take 31 = .ok (.getfield 22, 3) := by decide +kernel
theorem d_M_take_34 : decode c_M_take 34 = .ok (.ireturn, 1) := by decide +kernel
theorem d_N_init_0 : decode c_N_init 0 = .ok (.aload_n 0, 1) := by decide +kernel
theorem d_N_init_1 : decode c_N_init 1 = .ok (.invokespecial 3, 3) := by decide +kernel
theorem d_N_init_4 : decode c_N_init 4 = .ok (.aload_n 0, 1) := by decide +kernel
theorem d_N_init_5 : decode c_N_init 5 = .ok (.iload_n 1, 1) := by decide +kernel
theorem d_N_init_6 : decode c_N_init 6 = .ok (.putfield 9, 3) := by decide +kernel
theorem d_N_init_9 : decode c_N_init 9 = .ok (.aload_n 0, 1) := by decide +kernel
theorem d_N_init_10 : decode c_N_init 10 = .ok (.bipush 8, 2) := by decide +kernel
theorem d_N_init_12 : decode c_N_init 12 = .ok (.newarray .int, 2) := by decide +kernel
theorem d_N_init_14 : decode c_N_init 14 = .ok (.putfield 15, 3) := by decide +kernel
theorem d_N_init_17 : decode c_N_init 17 = .ok (.aload_n 0, 1) := by decide +kernel
theorem d_N_init_18 : decode c_N_init 18 = .ok (.bipush 48, 2) := by decide +kernel
theorem d_N_init_20 : decode c_N_init 20 = .ok (.newarray .int, 2) := by decide +kernel
