theorem dX12_home_214 : decode cX12_home 214 = .ok (.lcmp, 1) := by decide +kernel
theorem dX12_home_215 : decode cX12_home 215 = .ok (.ifCond .eq 21, 3) := by decide +kernel
theorem dX12_home_218 : decode cX12_home 218 = .ok (.lload 9, 2) := by decide +kernel
theorem dX12_home_220 : decode cX12_home 220 = .ok (.lload 11, 2) := by decide +kernel
theorem dX12_home_222 : decode cX12_home 222 = .ok (.lrem, 1) := by decide +kernel
theorem dX12_home_223 : decode cX12_home 223 = .ok (.lstore 13, 2) := by decide +kernel
theorem dX12_home_225 : decode cX12_home 225 = .ok (.lload 11, 2) := by decide +kernel
theorem dX12_home_227 : decode cX12_home 227 = .ok (.lstore 9, 2) := by decide +kernel
theorem dX12_home_229 : decode cX12_home 229 = .ok (.lload 13, 2) := by decide +kernel
theorem dX12_home_231 : decode cX12_home 231 = .ok (.lstore 11, 2) := by decide +kernel
theorem dX12_home_233 : decode cX12_home 233 = .ok (.goto (-22), 3) := by decide +kernel
theorem dX12_home_236 : decode cX12_home 236 = .ok (.iload 4, 2) := by decide +kernel
theorem dX12_home_238 : decode cX12_home 238 = .ok (.ifCond .ne 11, 3) := by decide +kernel
theorem dX12_home_241 : decode cX12_home 241 = .ok (.lload 5, 2) := by decide +kernel
theorem dX12_home_243 : decode cX12_home 243 = .ok (.lload 9, 2) := by decide +kernel
theorem dX12_home_245 : decode cX12_home 245 = .ok (.ldiv, 1) := by decide +kernel
theorem dX12_home_246 : decode cX12_home 246 = .ok (.goto 8, 3) := by decide +kernel
theorem dX12_home_249 : decode cX12_home 249 = .ok (.lload 7, 2) := by decide +kernel
theorem dX12_home_251 : decode cX12_home 251 = .ok (.lload 9, 2) := by decide +kernel
theorem dX12_home_253 : decode cX12_home 253 = .ok (.ldiv, 1) := by decide +kernel
theorem dX12_home_254 : decode cX12_home 254 = .ok (.lreturn, 1) := by decide +kernel
theorem dX12_missing_0 : decode cX12_missing 0 = .ok (.bipush 99, 2) := by decide +kernel
theorem dX12_missing_2 : decode cX12_missing 2 = .ok (.aload_n 0, 1) := by decide +kernel
theorem dX12_missing_3 : decode cX12_missing 3 = .ok (.getfield 67, 3) := by decide +kernel
theorem dX12_missing_6 : decode cX12_missing 6 = .ok (.bipush 39, 2) := by decide +kernel
theorem dX12_missing_8 : decode cX12_missing 8 = .ok (.iload_n 1, 1) := by decide +kernel
theorem dX12_missing_9 : decode cX12_missing 9 = .ok (.iadd, 1) := by decide +kernel
theorem dX12_missing_10 : decode cX12_missing 10 = .ok (.iaload, 1) := by decide +kernel
theorem dX12_missing_11 : decode cX12_missing 11 = .ok (.isub, 1) := by decide +kernel
theorem dX12_missing_12 : decode cX12_missing 12 = .ok (.ireturn, 1) := by decide +kernel
theorem dX12_givenBy_0 : decode cX12_givenBy 0 = .ok (.iconst 0, 1) := by decide +kernel
theorem dX12_givenBy_1 : decode cX12_givenBy 1 = .ok (.istore_n 3, 1) := by decide +kernel
theorem dX12_givenBy_2 : decode cX12_givenBy 2 = .ok (.iconst 0, 1) := by decide +kernel
theorem dX12_givenBy_3 : decode cX12_givenBy 3 = .ok (.istore 4, 2) := by decide +kernel
theorem dX12_givenBy_5 : decode cX12_givenBy 5 = .ok (.iload 4, 2) := by decide +kernel
theorem dX12_givenBy_7 : decode cX12_givenBy 7 = .ok (.aload_n 0, 1) := by decide +kernel
theorem dX12_givenBy_8 : decode cX12_givenBy 8 = .ok (.getfield 23, 3) := by decide +kernel
theorem dX12_givenBy_11 : decode cX12_givenBy 11 = .ok (.iconst 0, 1) := by decide +kernel
theorem dX12_givenBy_12 : decode cX12_givenBy 12 = .ok (.iaload, 1) := by decide +kernel
theorem dX12_givenBy_13 : decode cX12_givenBy 13 = .ok (.if_icmp .ge 35, 3) := by decide +kernel
theorem dX12_givenBy_16 : decode cX12_givenBy 16 = .ok (.iload_n 3, 1) := by decide +kernel
theorem dX12_givenBy_17 : decode cX12_givenBy 17 = .ok (.iload_n 1, 1) := by decide +kernel
theorem dX12_givenBy_18 : decode cX12_givenBy 18 = .ok (.iload 4, 2) := by decide +kernel
theorem dX12_givenBy_20 : decode cX12_givenBy 20 = .ok (.invokestatic 266, 3) := by decide +kernel
theorem dX12_givenBy_23 : decode cX12_givenBy 23 = .ok (.ifCond .eq 16, 3) := by decide +kernel
theorem dX12_givenBy_26 : decode cX12_givenBy 26 = .ok (.iload_n 2, 1) := by decide +kernel
theorem dX12_givenBy_27 : decode cX12_givenBy 27 = .ok (.aload_n 0, 1) := by decide +kernel
theorem dX12_givenBy_28 : decode cX12_givenBy 28 = .ok (.iload 4, 2) := by decide +kernel
theorem dX12_givenBy_30 : decode cX12_givenBy 30 = .ok (.invokevirtual 392, 3) := by decide +kernel
theorem dX12_givenBy_33 : decode cX12_givenBy 33 = .ok (.invokestatic 247, 3) := by decide +kernel
theorem dX12_givenBy_36 : decode cX12_givenBy 36 = .ok (.goto 4, 3) := by decide +kernel
theorem dX12_givenBy_39 : decode cX12_givenBy 39 = .ok (.iconst 0, 1) := by decide +kernel
theorem dX12_givenBy_40 : decode cX12_givenBy 40 = .ok (.iadd, 1) := by decide +kernel
theorem dX12_givenBy_41 : decode cX12_givenBy 41 = .ok (.istore_n 3, 1) := by decide +kernel
theorem dX12_givenBy_42 : decode cX12_givenBy 42 = .ok (.iinc 4 1, 3) := by decide +kernel
theorem dX12_givenBy_45 : decode cX12_givenBy 45 = .ok (.goto (-40), 3) := by decide +kernel
theorem dX12_givenBy_48 : decode cX12_givenBy 48 = .ok (.iload_n 3, 1) := by decide +kernel
theorem dX12_givenBy_49 : decode cX12_givenBy 49 = .ok (.ireturn, 1) := by decide +kernel
theorem dX12_share_0 : decode cX12_share 0 = .ok (.aload_n 0, 1) := by decide +kernel
theorem dX12_share_1 : decode cX12_share 1 = .ok (.iconst 0, 1) := by decide +kernel
theorem dX12_share_2 : decode cX12_share 2 = .ok (.putfield 104, 3) := by decide +kernel
theorem dX12_share_5 : decode cX12_share 5 = .ok (.aload_n 0, 1) := by decide +kernel
theorem dX12_share_6 : decode cX12_share 6 = .ok (.aload_n 0, 1) := by decide +kernel
theorem dX12_share_7 : decode cX12_share 7 = .ok (.iload_n 1, 1) := by decide +kernel
theorem dX12_share_8 : decode cX12_share 8 = .ok (.invokevirtual 348, 3) := by decide +kernel
theorem dX12_share_11 : decode cX12_share 11 = .ok (.ifCond .ne 7, 3) := by decide +kernel
theorem dX12_share_14 : decode cX12_share 14 = .ok (.iconst 1, 1) := by decide +kernel
theorem dX12_share_15 : decode cX12_share 15 = .ok (.goto 4, 3) := by decide +kernel
theorem dX12_share_18 : decode cX12_share 18 = .ok (.iconst 0, 1) := by decide +kernel
theorem dX12_share_19 : decode cX12_share 19 = .ok (.iconst 1, 1) := by decide +kernel
theorem dX12_share_20 : decode cX12_share 20 = .ok (.iconst 0, 1) := by decide +kernel
theorem dX12_share_21 : decode cX12_share 21 = .ok (.invokevirtual 183, 3) := by decide +kernel
theorem dX12_share_24 : decode cX12_share 24 = .ok (.ifCond .ne 46, 3) := by decide +kernel
theorem dX12_share_27 : decode cX12_share 27 = .ok (.aload_n 0, 1) := by decide +kernel
theorem dX12_share_28 : decode cX12_share 28 = .ok (.iload_n 2, 1) := by decide +kernel
theorem dX12_share_29 : decode cX12_share 29 = .ok (.iconst 0, 1) := by decide +kernel
theorem dX12_share_30 : decode cX12_share 30 = .ok (.iconst 1, 1) := by decide +kernel
theorem dX12_share_31 : decode cX12_share 31 = .ok (.aload_n 0, 1) := by decide +kernel
theorem dX12_share_32 : decode cX12_share 32 = .ok (.getfield 23, 3) := by decide +kernel
theorem dX12_share_35 : decode cX12_share 35 = .ok (.iconst 0, 1) := by decide +kernel
theorem dX12_share_36 : decode cX12_share 36 = .ok (.iaload, 1) := by decide +kernel
theorem dX12_share_37 : decode cX12_share 37 = .ok (.ishl, 1) := by decide +kernel
theorem dX12_share_38 : decode cX12_share 38 = .ok (.iconst 1, 1) := by decide +kernel
theorem dX12_share_39 : decode cX12_share 39 = .ok (.isub, 1) := by decide +kernel
theorem dX12_share_40 : decode cX12_share 40 = .ok (.invokestatic 138, 3) := by decide +kernel
theorem dX12_share_43 : decode cX12_share 43 = .ok (.ifCond .eq 14, 3) := by decide +kernel
theorem dX12_share_46 : decode cX12_share 46 = .ok (.iload_n 3, 1) := by decide +kernel
theorem dX12_share_47 : decode cX12_share 47 = .ok (.iconst 0, 1) := by decide +kernel
theorem dX12_share_48 : decode cX12_share 48 = .ok (.sipush 999, 3) := by decide +kernel
theorem dX12_share_51 : decode cX12_share 51 = .ok (.invokestatic 138, 3) := by decide +kernel
theorem dX12_share_54 : decode cX12_share 54 = .ok (.ifCond .ne 7, 3) := by decide +kernel
theorem dX12_share_57 : decode cX12_share 57 = .ok (.iconst 1, 1) := by decide +kernel
theorem dX12_share_58 : decode cX12_share 58 = .ok (.goto 4, 3) := by decide +kernel
theorem dX12_share_61 : decode cX12_share 61 = .ok (.iconst 0, 1) := by decide +kernel
theorem dX12_share_62 : decode cX12_share 62 = .ok (.iconst 2, 1) := by decide +kernel
theorem dX12_share_63 : decode cX12_share 63 = .ok (.iconst 1, 1) := by decide +kernel
theorem dX12_share_64 : decode cX12_share 64 = .ok (.invokevirtual 183, 3) := by decide +kernel
theorem dX12_share_67 : decode cX12_share 67 = .ok (.ifCond .eq 5, 3) := by decide +kernel
theorem dX12_share_70 : decode cX12_share 70 = .ok (.iconst 0, 1) := by decide +kernel
theorem dX12_share_71 : decode cX12_share 71 = .ok (.ireturn, 1) := by decide +kernel
theorem dX12_share_72 : decode cX12_share 72 = .ok (.iconst 0, 1) := by decide +kernel
theorem dX12_share_73 : decode cX12_share 73 = .ok (.istore 4, 2) := by decide +kernel
theorem dX12_share_75 : decode cX12_share 75 = .ok (.iload 4, 2) := by decide +kernel
theorem dX12_share_77 : decode cX12_share 77 = .ok (.bipush 99, 2) := by decide +kernel
theorem dX12_share_79 : decode cX12_share 79 = .ok (.if_icmp .ge 22, 3) := by decide +kernel
theorem dX12_share_82 : decode cX12_share 82 = .ok (.aload_n 0, 1) := by decide +kernel
theorem dX12_share_83 : decode cX12_share 83 = .ok (.iload_n 2, 1) := by decide +kernel
theorem dX12_share_84 : decode cX12_share 84 = .ok (.iload 4, 2) := by decide +kernel
theorem dX12_share_86 : decode cX12_share 86 = .ok (.iconst 1, 1) := by decide +kernel
theorem dX12_share_87 : decode cX12_share 87 = .ok (.iadd, 1) := by decide +kernel
theorem dX12_share_88 : decode cX12_share 88 = .ok (.invokevirtual 395, 3) := by decide +kernel
theorem dX12_share_91 : decode cX12_share 91 = .ok (.iload_n 3, 1) := by decide +kernel
theorem dX12_share_92 : decode cX12_share 92 = .ok (.if_icmp .gt 9, 3) := by decide +kernel
theorem dX12_share_95 : decode cX12_share 95 = .ok (.iinc 4 1, 3) := by decide +kernel
theorem dX12_share_98 : decode cX12_share 98 = .ok (.goto (-23), 3) := by decide +kernel
theorem dX12_share_101 : decode cX12_share 101 = .ok (.iload_n 2, 1) := by decide +kernel
theorem dX12_share_102 : decode cX12_share 102 = .ok (.iload_n 1, 1) := by decide +kernel
theorem dX12_share_103 : decode cX12_share 103 = .ok (.invokestatic 266, 3) := by decide +kernel
theorem dX12_share_106 : decode cX12_share 106 = .ok (.ifCond .eq 16, 3) := by decide +kernel
theorem dX12_share_109 : decode cX12_share 109 = .ok (.iload 4, 2) := by decide +kernel
theorem dX12_share_111 : decode cX12_share 111 = .ok (.aload_n 0, 1) := by decide +kernel
theorem dX12_share_112 : decode cX12_share 112 = .ok (.iload_n 1, 1) := by decide +kernel
theorem dX12_share_113 : decode cX12_share 113 = .ok (.invokevirtual 392, 3) := by decide +kernel
theorem dX12_share_116 : decode cX12_share 116 = .ok (.invokestatic 247, 3) := by decide +kernel
theorem dX12_share_119 : decode cX12_share 119 = .ok (.goto 4, 3) := by decide +kernel
theorem dX12_share_122 : decode cX12_share 122 = .ok (.iconst 0, 1) := by decide +kernel
theorem dX12_share_123 : decode cX12_share 123 = .ok (.ireturn, 1) := by decide +kernel
theorem dX12_topOf_0 : decode cX12_topOf 0 = .ok (.iconst (-1), 1) := by decide +kernel
theorem dX12_topOf_1 : decode cX12_topOf 1 = .ok (.istore_n 2, 1) := by decide +kernel
theorem dX12_topOf_2 : decode cX12_topOf 2 = .ok (.iconst 0, 1) := by decide +kernel
theorem dX12_topOf_3 : decode cX12_topOf 3 = .ok (.istore_n 3, 1) := by decide +kernel
theorem dX12_topOf_4 : decode cX12_topOf 4 = .ok (.iload_n 3, 1) := by decide +kernel
theorem dX12_topOf_5 : decode cX12_topOf 5 = .ok (.aload_n 0, 1) := by decide +kernel
theorem dX12_topOf_6 : decode cX12_topOf 6 = .ok (.getfield 23, 3) := by decide +kernel
theorem dX12_topOf_9 : decode cX12_topOf 9 = .ok (.iconst 1, 1) := by decide +kernel
theorem dX12_topOf_10 : decode cX12_topOf 10 = .ok (.iaload, 1) := by decide +kernel
theorem dX12_topOf_11 : decode cX12_topOf 11 = .ok (.if_icmp .ge 50, 3) := by decide +kernel
theorem dX12_topOf_14 : decode cX12_topOf 14 = .ok (.aload_n 0, 1) := by decide +kernel
theorem dX12_topOf_15 : decode cX12_topOf 15 = .ok (.getfield 67, 3) := by decide +kernel
theorem dX12_topOf_18 : decode cX12_topOf 18 = .ok (.iload_n 3, 1) := by decide +kernel
theorem dX12_topOf_19 : decode cX12_topOf 19 = .ok (.invokestatic 273, 3) := by decide +kernel
theorem dX12_topOf_22 : decode cX12_topOf 22 = .ok (.ifCond .eq 31, 3) := by decide +kernel
theorem dX12_topOf_25 : decode cX12_topOf 25 = .ok (.iload_n 2, 1) := by decide +kernel
theorem dX12_topOf_26 : decode cX12_topOf 26 = .ok (.iconst (-1), 1) := by decide +kernel
theorem dX12_topOf_27 : decode cX12_topOf 27 = .ok (.if_icmp .eq 22, 3) := by decide +kernel
theorem dX12_topOf_30 : decode cX12_topOf 30 = .ok (.aload_n 0, 1) := by decide +kernel
theorem dX12_topOf_31 : decode cX12_topOf 31 = .ok (.getfield 67, 3) := by decide +kernel
theorem dX12_topOf_34 : decode cX12_topOf 34 = .ok (.iload_n 1, 1) := by decide +kernel
theorem dX12_topOf_35 : decode cX12_topOf 35 = .ok (.iload_n 3, 1) := by decide +kernel
theorem dX12_topOf_36 : decode cX12_topOf 36 = .ok (.iadd, 1) := by decide +kernel
theorem dX12_topOf_37 : decode cX12_topOf 37 = .ok (.iaload, 1) := by decide +kernel
theorem dX12_topOf_38 : decode cX12_topOf 38 = .ok (.aload_n 0, 1) := by decide +kernel
theorem dX12_topOf_39 : decode cX12_topOf 39 = .ok (.getfield 67, 3) := by decide +kernel
theorem dX12_topOf_42 : decode cX12_topOf 42 = .ok (.iload_n 1, 1) := by decide +kernel
theorem dX12_topOf_43 : decode cX12_topOf 43 = .ok (.iload_n 2, 1) := by decide +kernel
theorem dX12_topOf_44 : decode cX12_topOf 44 = .ok (.iadd, 1) := by decide +kernel
theorem dX12_topOf_45 : decode cX12_topOf 45 = .ok (.iaload, 1) := by decide +kernel
theorem dX12_topOf_46 : decode cX12_topOf 46 = .ok (.if_icmp .le 7, 3) := by decide +kernel
theorem dX12_topOf_49 : decode cX12_topOf 49 = .ok (.iload_n 3, 1) := by decide +kernel
theorem dX12_topOf_50 : decode cX12_topOf 50 = .ok (.goto 4, 3) := by decide +kernel
theorem dX12_topOf_53 : decode cX12_topOf 53 = .ok (.iload_n 2, 1) := by decide +kernel
theorem dX12_topOf_54 : decode cX12_topOf 54 = .ok (.istore_n 2, 1) := by decide +kernel
theorem dX12_topOf_55 : decode cX12_topOf 55 = .ok (.iinc 3 1, 3) := by decide +kernel
theorem dX12_topOf_58 : decode cX12_topOf 58 = .ok (.goto (-54), 3) := by decide +kernel
theorem dX12_topOf_61 : decode cX12_topOf 61 = .ok (.iload_n 2, 1) := by decide +kernel
theorem dX12_topOf_62 : decode cX12_topOf 62 = .ok (.ireturn, 1) := by decide +kernel
theorem dX12_heaviestOr_0 : decode cX12_heaviestOr 0 = .ok (.aload_n 0, 1) := by decide +kernel
theorem dX12_heaviestOr_1 : decode cX12_heaviestOr 1 = .ok (.iconst 0, 1) := by decide +kernel
theorem dX12_heaviestOr_2 : decode cX12_heaviestOr 2 = .ok (.putfield 104, 3) := by decide +kernel
theorem dX12_heaviestOr_5 : decode cX12_heaviestOr 5 = .ok (.aload_n 0, 1) := by decide +kernel
theorem dX12_heaviestOr_6 : decode cX12_heaviestOr 6 = .ok (.iload_n 1, 1) := by decide +kernel
theorem dX12_heaviestOr_7 : decode cX12_heaviestOr 7 = .ok (.iconst 0, 1) := by decide +kernel
theorem dX12_heaviestOr_8 : decode cX12_heaviestOr 8 = .ok (.iconst 1, 1) := by decide +kernel
theorem dX12_heaviestOr_9 : decode cX12_heaviestOr 9 = .ok (.invokestatic 138, 3) := by decide +kernel
theorem dX12_heaviestOr_12 : decode cX12_heaviestOr 12 = .ok (.ifCond .ne 7, 3) := by decide +kernel
theorem dX12_heaviestOr_15 : decode cX12_heaviestOr 15 = .ok (.iconst 1, 1) := by decide +kernel
theorem dX12_heaviestOr_16 : decode cX12_heaviestOr 16 = .ok (.goto 4, 3) := by decide +kernel
theorem dX12_heaviestOr_19 : decode cX12_heaviestOr 19 = .ok (.iconst 0, 1) := by decide +kernel
theorem dX12_heaviestOr_20 : decode cX12_heaviestOr 20 = .ok (.iconst 1, 1) := by decide +kernel
theorem dX12_heaviestOr_21 : decode cX12_heaviestOr 21 = .ok (.iconst 1, 1) := by decide +kernel
theorem dX12_heaviestOr_22 : decode cX12_heaviestOr 22 = .ok (.invokevirtual 183, 3) := by decide +kernel
theorem dX12_heaviestOr_25 : decode cX12_heaviestOr 25 = .ok (.ifCond .eq 5, 3) := by decide +kernel
theorem dX12_heaviestOr_28 : decode cX12_heaviestOr 28 = .ok (.iconst 0, 1) := by decide +kernel
theorem dX12_heaviestOr_29 : decode cX12_heaviestOr 29 = .ok (.ireturn, 1) := by decide +kernel
theorem dX12_heaviestOr_30 : decode cX12_heaviestOr 30 = .ok (.aload_n 0, 1) := by decide +kernel
theorem dX12_heaviestOr_31 : decode cX12_heaviestOr 31 = .ok (.iload_n 2, 1) := by decide +kernel
theorem dX12_heaviestOr_32 : decode cX12_heaviestOr 32 = .ok (.invokevirtual 398, 3) := by decide +kernel
theorem dX12_heaviestOr_35 : decode cX12_heaviestOr 35 = .ok (.istore_n 3, 1) := by decide +kernel
theorem dX12_heaviestOr_36 : decode cX12_heaviestOr 36 = .ok (.iload_n 1, 1) := by decide +kernel
theorem dX12_heaviestOr_37 : decode cX12_heaviestOr 37 = .ok (.ifCond .eq 8, 3) := by decide +kernel
theorem dX12_heaviestOr_40 : decode cX12_heaviestOr 40 = .ok (.iload_n 3, 1) := by decide +kernel
theorem dX12_heaviestOr_41 : decode cX12_heaviestOr 41 = .ok (.iconst (-1), 1) := by decide +kernel
theorem dX12_heaviestOr_42 : decode cX12_heaviestOr 42 = .ok (.if_icmp .ne 7, 3) := by decide +kernel
theorem dX12_heaviestOr_45 : decode cX12_heaviestOr 45 = .ok (.iload_n 3, 1) := by decide +kernel
theorem dX12_heaviestOr_46 : decode cX12_heaviestOr 46 = .ok (.goto 11, 3) := by decide +kernel
theorem dX12_heaviestOr_49 : decode cX12_heaviestOr 49 = .ok (.aload_n 0, 1) := by decide +kernel
theorem dX12_heaviestOr_50 : decode cX12_heaviestOr 50 = .ok (.getfield 67, 3) := by decide +kernel
theorem dX12_heaviestOr_53 : decode cX12_heaviestOr 53 = .ok (.iload_n 2, 1) := by decide +kernel
theorem dX12_heaviestOr_54 : decode cX12_heaviestOr 54 = .ok (.iload_n 3, 1) := by decide +kernel
theorem dX12_heaviestOr_55 : decode cX12_heaviestOr 55 = .ok (.iadd, 1) := by decide +kernel
theorem dX12_heaviestOr_56 : decode cX12_heaviestOr 56 = .ok (.iaload, 1) := by decide +kernel
theorem dX12_heaviestOr_57 : decode cX12_heaviestOr 57 = .ok (.ireturn, 1) := by decide +kernel
theorem dX12_heaviest_0 : decode cX12_heaviest 0 = .ok (.aload_n 0, 1) := by decide +kernel
theorem dX12_heaviest_1 : decode cX12_heaviest 1 = .ok (.iload_n 1, 1) := by decide +kernel
theorem dX12_heaviest_2 : decode cX12_heaviest 2 = .ok (.iconst 0, 1) := by decide +kernel
theorem dX12_heaviest_3 : decode cX12_heaviest 3 = .ok (.invokevirtual 401, 3) := by decide +kernel
theorem dX12_heaviest_6 : decode cX12_heaviest 6 = .ok (.ireturn, 1) := by decide +kernel
theorem dX12_oldest_0 : decode cX12_oldest 0 = .ok (.aload_n 0, 1) := by decide +kernel
theorem dX12_oldest_1 : decode cX12_oldest 1 = .ok (.iload_n 1, 1) := by decide +kernel
theorem dX12_oldest_2 : decode cX12_oldest 2 = .ok (.bipush 13, 2) := by decide +kernel
theorem dX12_oldest_4 : decode cX12_oldest 4 = .ok (.invokevirtual 401, 3) := by decide +kernel
theorem dX12_oldest_7 : decode cX12_oldest 7 = .ok (.ireturn, 1) := by decide +kernel
theorem dX12_weighs_0 : decode cX12_weighs 0 = .ok (.aload_n 0, 1) := by decide +kernel
theorem dX12_weighs_1 : decode cX12_weighs 1 = .ok (.iconst 0, 1) := by decide +kernel
theorem dX12_weighs_2 : decode cX12_weighs 2 = .ok (.putfield 104, 3) := by decide +kernel
theorem dX12_weighs_5 : decode cX12_weighs 5 = .ok (.aload_n 0, 1) := by decide +kernel
theorem dX12_weighs_6 : decode cX12_weighs 6 = .ok (.aload_n 0, 1) := by decide +kernel
theorem dX12_weighs_7 : decode cX12_weighs 7 = .ok (.iload_n 1, 1) := by decide +kernel
theorem dX12_weighs_8 : decode cX12_weighs 8 = .ok (.invokevirtual 348, 3) := by decide +kernel
theorem dX12_weighs_11 : decode cX12_weighs 11 = .ok (.ifCond .ne 7, 3) := by decide +kernel
theorem dX12_weighs_14 : decode cX12_weighs 14 = .ok (.iconst 1, 1) := by decide +kernel
theorem dX12_weighs_15 : decode cX12_weighs 15 = .ok (.goto 4, 3) := by decide +kernel
theorem dX12_weighs_18 : decode cX12_weighs 18 = .ok (.iconst 0, 1) := by decide +kernel
theorem dX12_weighs_19 : decode cX12_weighs 19 = .ok (.iconst 1, 1) := by decide +kernel
theorem dX12_weighs_20 : decode cX12_weighs 20 = .ok (.iconst 0, 1) := by decide +kernel
theorem dX12_weighs_21 : decode cX12_weighs 21 = .ok (.invokevirtual 183, 3) := by decide +kernel
theorem dX12_weighs_24 : decode cX12_weighs 24 = .ok (.ifCond .ne 26, 3) := by decide +kernel
theorem dX12_weighs_27 : decode cX12_weighs 27 = .ok (.aload_n 0, 1) := by decide +kernel
theorem dX12_weighs_28 : decode cX12_weighs 28 = .ok (.iload_n 2, 1) := by decide +kernel
theorem dX12_weighs_29 : decode cX12_weighs 29 = .ok (.iconst 0, 1) := by decide +kernel
theorem dX12_weighs_30 : decode cX12_weighs 30 = .ok (.iconst 1, 1) := by decide +kernel
theorem dX12_weighs_31 : decode cX12_weighs 31 = .ok (.invokestatic 138, 3) := by decide +kernel
theorem dX12_weighs_34 : decode cX12_weighs 34 = .ok (.ifCond .ne 7, 3) := by decide +kernel
theorem dX12_weighs_37 : decode cX12_weighs 37 = .ok (.iconst 1, 1) := by decide +kernel
theorem dX12_weighs_38 : decode cX12_weighs 38 = .ok (.goto 4, 3) := by decide +kernel
theorem dX12_weighs_41 : decode cX12_weighs 41 = .ok (.iconst 0, 1) := by decide +kernel
theorem dX12_weighs_42 : decode cX12_weighs 42 = .ok (.iconst 2, 1) := by decide +kernel
theorem dX12_weighs_43 : decode cX12_weighs 43 = .ok (.iconst 1, 1) := by decide +kernel
theorem dX12_weighs_44 : decode cX12_weighs 44 = .ok (.invokevirtual 183, 3) := by decide +kernel
theorem dX12_weighs_47 : decode cX12_weighs 47 = .ok (.ifCond .eq 5, 3) := by decide +kernel
theorem dX12_weighs_50 : decode cX12_weighs 50 = .ok (.iconst 0, 1) := by decide +kernel
theorem dX12_weighs_51 : decode cX12_weighs 51 = .ok (.ireturn, 1) := by decide +kernel
theorem dX12_weighs_52 : decode cX12_weighs 52 = .ok (.aload_n 0, 1) := by decide +kernel
theorem dX12_weighs_53 : decode cX12_weighs 53 = .ok (.aload_n 0, 1) := by decide +kernel
theorem dX12_weighs_54 : decode cX12_weighs 54 = .ok (.iload_n 1, 1) := by decide +kernel
theorem dX12_weighs_55 : decode cX12_weighs 55 = .ok (.iload_n 2, 1) := by decide +kernel
theorem dX12_weighs_56 : decode cX12_weighs 56 = .ok (.invokevirtual 351, 3) := by decide +kernel
theorem dX12_weighs_59 : decode cX12_weighs 59 = .ok (.invokevirtual 369, 3) := by decide +kernel
theorem dX12_weighs_62 : decode cX12_weighs 62 = .ok (.ireturn, 1) := by decide +kernel
theorem dX12_lightest_0 : decode cX12_lightest 0 = .ok (.aload_n 0, 1) := by decide +kernel
theorem dX12_lightest_1 : decode cX12_lightest 1 = .ok (.iconst 0, 1) := by decide +kernel
theorem dX12_lightest_2 : decode cX12_lightest 2 = .ok (.putfield 104, 3) := by decide +kernel
theorem dX12_lightest_5 : decode cX12_lightest 5 = .ok (.aload_n 0, 1) := by decide +kernel
theorem dX12_lightest_6 : decode cX12_lightest 6 = .ok (.iload_n 1, 1) := by decide +kernel
theorem dX12_lightest_7 : decode cX12_lightest 7 = .ok (.iconst 0, 1) := by decide +kernel
theorem dX12_lightest_8 : decode cX12_lightest 8 = .ok (.iconst 1, 1) := by decide +kernel
theorem dX12_lightest_9 : decode cX12_lightest 9 = .ok (.invokestatic 138, 3) := by decide +kernel
theorem dX12_lightest_12 : decode cX12_lightest 12 = .ok (.ifCond .ne 7, 3) := by decide +kernel
theorem dX12_lightest_15 : decode cX12_lightest 15 = .ok (.iconst 1, 1) := by decide +kernel
theorem dX12_lightest_16 : decode cX12_lightest 16 = .ok (.goto 4, 3) := by decide +kernel
theorem dX12_lightest_19 : decode cX12_lightest 19 = .ok (.iconst 0, 1) := by decide +kernel
theorem dX12_lightest_20 : decode cX12_lightest 20 = .ok (.iconst 1, 1) := by decide +kernel
theorem dX12_lightest_21 : decode cX12_lightest 21 = .ok (.iconst 1, 1) := by decide +kernel
theorem dX12_lightest_22 : decode cX12_lightest 22 = .ok (.invokevirtual 183, 3) := by decide +kernel
theorem dX12_lightest_25 : decode cX12_lightest 25 = .ok (.ifCond .eq 5, 3) := by decide +kernel
theorem dX12_lightest_28 : decode cX12_lightest 28 = .ok (.iconst 0, 1) := by decide +kernel
theorem dX12_lightest_29 : decode cX12_lightest 29 = .ok (.ireturn, 1) := by decide +kernel
theorem dX12_lightest_30 : decode cX12_lightest 30 = .ok (.iconst (-1), 1) := by decide +kernel
theorem dX12_lightest_31 : decode cX12_lightest 31 = .ok (.istore_n 2, 1) := by decide +kernel
theorem dX12_lightest_32 : decode cX12_lightest 32 = .ok (.iconst 0, 1) := by decide +kernel
theorem dX12_lightest_33 : decode cX12_lightest 33 = .ok (.istore_n 3, 1) := by decide +kernel
theorem dX12_lightest_34 : decode cX12_lightest 34 = .ok (.iload_n 3, 1) := by decide +kernel
theorem dX12_lightest_35 : decode cX12_lightest 35 = .ok (.aload_n 0, 1) := by decide +kernel
theorem dX12_lightest_36 : decode cX12_lightest 36 = .ok (.getfield 23, 3) := by decide +kernel
theorem dX12_lightest_39 : decode cX12_lightest 39 = .ok (.iconst 1, 1) := by decide +kernel
theorem dX12_lightest_40 : decode cX12_lightest 40 = .ok (.iaload, 1) := by decide +kernel
theorem dX12_lightest_41 : decode cX12_lightest 41 = .ok (.if_icmp .ge 50, 3) := by decide +kernel
theorem dX12_lightest_44 : decode cX12_lightest 44 = .ok (.aload_n 0, 1) := by decide +kernel
theorem dX12_lightest_45 : decode cX12_lightest 45 = .ok (.getfield 67, 3) := by decide +kernel
theorem dX12_lightest_48 : decode cX12_lightest 48 = .ok (.iload_n 3, 1) := by decide +kernel
theorem dX12_lightest_49 : decode cX12_lightest 49 = .ok (.invokestatic 273, 3) := by decide +kernel
theorem dX12_lightest_52 : decode cX12_lightest 52 = .ok (.ifCond .eq 31, 3) := by decide +kernel
theorem dX12_lightest_55 : decode cX12_lightest 55 = .ok (.iload_n 2, 1) := by decide +kernel
theorem dX12_lightest_56 : decode cX12_lightest 56 = .ok (.iconst (-1), 1) := by decide +kernel
theorem dX12_lightest_57 : decode cX12_lightest 57 = .ok (.if_icmp .eq 22, 3) := by decide +kernel
theorem dX12_lightest_60 : decode cX12_lightest 60 = .ok (.aload_n 0, 1) := by decide +kernel
theorem dX12_lightest_61 : decode cX12_lightest 61 = .ok (.getfield 67, 3) := by decide +kernel
theorem dX12_lightest_64 : decode cX12_lightest 64 = .ok (.iconst 0, 1) := by decide +kernel
theorem dX12_lightest_65 : decode cX12_lightest 65 = .ok (.iload_n 3, 1) := by decide +kernel
theorem dX12_lightest_66 : decode cX12_lightest 66 = .ok (.iadd, 1) := by decide +kernel
theorem dX12_lightest_67 : decode cX12_lightest 67 = .ok (.iaload, 1) := by decide +kernel
theorem dX12_lightest_68 : decode cX12_lightest 68 = .ok (.aload_n 0, 1) := by decide +kernel
theorem dX12_lightest_69 : decode cX12_lightest 69 = .ok (.getfield 67, 3) := by decide +kernel
theorem dX12_lightest_72 : decode cX12_lightest 72 = .ok (.iconst 0, 1) := by decide +kernel
theorem dX12_lightest_73 : decode cX12_lightest 73 = .ok (.iload_n 2, 1) := by decide +kernel
theorem dX12_lightest_74 : decode cX12_lightest 74 = .ok (.iadd, 1) := by decide +kernel
theorem dX12_lightest_75 : decode cX12_lightest 75 = .ok (.iaload, 1) := by decide +kernel
theorem dX12_lightest_76 : decode cX12_lightest 76 = .ok (.if_icmp .ge 7, 3) := by decide +kernel
theorem dX12_lightest_79 : decode cX12_lightest 79 = .ok (.iload_n 3, 1) := by decide +kernel
theorem dX12_lightest_80 : decode cX12_lightest 80 = .ok (.goto 4, 3) := by decide +kernel
theorem dX12_lightest_83 : decode cX12_lightest 83 = .ok (.iload_n 2, 1) := by decide +kernel
theorem dX12_lightest_84 : decode cX12_lightest 84 = .ok (.istore_n 2, 1) := by decide +kernel
theorem dX12_lightest_85 : decode cX12_lightest 85 = .ok (.iinc 3 1, 3) := by decide +kernel
theorem dX12_lightest_88 : decode cX12_lightest 88 = .ok (.goto (-54), 3) := by decide +kernel
theorem dX12_lightest_91 : decode cX12_lightest 91 = .ok (.iload_n 1, 1) := by decide +kernel
theorem dX12_lightest_92 : decode cX12_lightest 92 = .ok (.ifCond .eq 8, 3) := by decide +kernel
theorem dX12_lightest_95 : decode cX12_lightest 95 = .ok (.iload_n 2, 1) := by decide +kernel
theorem dX12_lightest_96 : decode cX12_lightest 96 = .ok (.iconst (-1), 1) := by decide +kernel
theorem dX12_lightest_97 : decode cX12_lightest 97 = .ok (.if_icmp .ne 7, 3) := by decide +kernel
theorem dX12_lightest_100 : decode cX12_lightest 100 = .ok (.iload_n 2, 1) := by decide +kernel
theorem dX12_lightest_101 : decode cX12_lightest 101 = .ok (.goto 11, 3) := by decide +kernel
theorem dX12_lightest_104 : decode cX12_lightest 104 = .ok (.aload_n 0, 1) := by decide +kernel
theorem dX12_lightest_105 : decode cX12_lightest 105 = .ok (.getfield 67, 3) := by decide +kernel
theorem dX12_lightest_108 : decode cX12_lightest 108 = .ok (.iconst 0, 1) := by decide +kernel
theorem dX12_lightest_109 : decode cX12_lightest 109 = .ok (.iload_n 2, 1) := by decide +kernel
theorem dX12_lightest_110 : decode cX12_lightest 110 = .ok (.iadd, 1) := by decide +kernel
theorem dX12_lightest_111 : decode cX12_lightest 111 = .ok (.iaload, 1) := by decide +kernel
theorem dX12_lightest_112 : decode cX12_lightest 112 = .ok (.ireturn, 1) := by decide +kernel
theorem dX12_coolest_0 : decode cX12_coolest 0 = .ok (.aload_n 0, 1) := by decide +kernel
theorem dX12_coolest_1 : decode cX12_coolest 1 = .ok (.iconst 0, 1) := by decide +kernel
theorem dX12_coolest_2 : decode cX12_coolest 2 = .ok (.putfield 104, 3) := by decide +kernel
theorem dX12_coolest_5 : decode cX12_coolest 5 = .ok (.aload_n 0, 1) := by decide +kernel
theorem dX12_coolest_6 : decode cX12_coolest 6 = .ok (.iload_n 1, 1) := by decide +kernel
theorem dX12_coolest_7 : decode cX12_coolest 7 = .ok (.iconst 0, 1) := by decide +kernel
theorem dX12_coolest_8 : decode cX12_coolest 8 = .ok (.iconst 1, 1) := by decide +kernel
theorem dX12_coolest_9 : decode cX12_coolest 9 = .ok (.invokestatic 138, 3) := by decide +kernel
theorem dX12_coolest_12 : decode cX12_coolest 12 = .ok (.ifCond .ne 7, 3) := by decide +kernel
theorem dX12_coolest_15 : decode cX12_coolest 15 = .ok (.iconst 1, 1) := by decide +kernel
theorem dX12_coolest_16 : decode cX12_coolest 16 = .ok (.goto 4, 3) := by decide +kernel
theorem dX12_coolest_19 : decode cX12_coolest 19 = .ok (.iconst 0, 1) := by decide +kernel
theorem dX12_coolest_20 : decode cX12_coolest 20 = .ok (.iconst 1, 1) := by decide +kernel
theorem dX12_coolest_21 : decode cX12_coolest 21 = .ok (.iconst 1, 1) := by decide +kernel
theorem dX12_coolest_22 : decode cX12_coolest 22 = .ok (.invokevirtual 183, 3) := by decide +kernel
theorem dX12_coolest_25 : decode cX12_coolest 25 = .ok (.ifCond .eq 5, 3) := by decide +kernel
theorem dX12_coolest_28 : decode cX12_coolest 28 = .ok (.iconst 0, 1) := by decide +kernel
theorem dX12_coolest_29 : decode cX12_coolest 29 = .ok (.ireturn, 1) := by decide +kernel
theorem dX12_coolest_30 : decode cX12_coolest 30 = .ok (.iconst (-1), 1) := by decide +kernel
theorem dX12_coolest_31 : decode cX12_coolest 31 = .ok (.istore_n 2, 1) := by decide +kernel
theorem dX12_coolest_32 : decode cX12_coolest 32 = .ok (.iconst 0, 1) := by decide +kernel
theorem dX12_coolest_33 : decode cX12_coolest 33 = .ok (.istore_n 3, 1) := by decide +kernel
theorem dX12_coolest_34 : decode cX12_coolest 34 = .ok (.iconst 0, 1) := by decide +kernel
theorem dX12_coolest_35 : decode cX12_coolest 35 = .ok (.istore 4, 2) := by decide +kernel
theorem dX12_coolest_37 : decode cX12_coolest 37 = .ok (.iload 4, 2) := by decide +kernel
theorem dX12_coolest_39 : decode cX12_coolest 39 = .ok (.aload_n 0, 1) := by decide +kernel
theorem dX12_coolest_40 : decode cX12_coolest 40 = .ok (.getfield 23, 3) := by decide +kernel
theorem dX12_coolest_43 : decode cX12_coolest 43 = .ok (.iconst 0, 1) := by decide +kernel
theorem dX12_coolest_44 : decode cX12_coolest 44 = .ok (.iaload, 1) := by decide +kernel
theorem dX12_coolest_45 : decode cX12_coolest 45 = .ok (.if_icmp .ge 71, 3) := by decide +kernel
theorem dX12_coolest_48 : decode cX12_coolest 48 = .ok (.iload 4, 2) := by decide +kernel
theorem dX12_coolest_50 : decode cX12_coolest 50 = .ok (.iconst 1, 1) := by decide +kernel
theorem dX12_coolest_51 : decode cX12_coolest 51 = .ok (.iadd, 1) := by decide +kernel
theorem dX12_coolest_52 : decode cX12_coolest 52 = .ok (.istore 5, 2) := by decide +kernel
theorem dX12_coolest_54 : decode cX12_coolest 54 = .ok (.iload 5, 2) := by decide +kernel
theorem dX12_coolest_56 : decode cX12_coolest 56 = .ok (.aload_n 0, 1) := by decide +kernel
theorem dX12_coolest_57 : decode cX12_coolest 57 = .ok (.getfield 23, 3) := by decide +kernel
theorem dX12_coolest_60 : decode cX12_coolest 60 = .ok (.iconst 0, 1) := by decide +kernel
theorem dX12_coolest_61 : decode cX12_coolest 61 = .ok (.iaload, 1) := by decide +kernel
theorem dX12_coolest_62 : decode cX12_coolest 62 = .ok (.if_icmp .ge 48, 3) := by decide +kernel
theorem dX12_coolest_65 : decode cX12_coolest 65 = .ok (.aload_n 0, 1) := by decide +kernel
theorem dX12_coolest_66 : decode cX12_coolest 66 = .ok (.getfield 67, 3) := by decide +kernel
theorem dX12_coolest_69 : decode cX12_coolest 69 = .ok (.bipush 45, 2) := by decide +kernel
theorem dX12_coolest_71 : decode cX12_coolest 71 = .ok (.bipush 6, 2) := by decide +kernel
theorem dX12_coolest_73 : decode cX12_coolest 73 = .ok (.iload 4, 2) := by decide +kernel
theorem dX12_coolest_75 : decode cX12_coolest 75 = .ok (.imul, 1) := by decide +kernel
theorem dX12_coolest_76 : decode cX12_coolest 76 = .ok (.iadd, 1) := by decide +kernel
theorem dX12_coolest_77 : decode cX12_coolest 77 = .ok (.iload 5, 2) := by decide +kernel
theorem dX12_coolest_79 : decode cX12_coolest 79 = .ok (.iadd, 1) := by decide +kernel
theorem dX12_coolest_80 : decode cX12_coolest 80 = .ok (.iaload, 1) := by decide +kernel
theorem dX12_coolest_81 : decode cX12_coolest 81 = .ok (.istore 6, 2) := by decide +kernel
theorem dX12_coolest_83 : decode cX12_coolest 83 = .ok (.iload 6, 2) := by decide +kernel
theorem dX12_coolest_85 : decode cX12_coolest 85 = .ok (.iload_n 3, 1) := by decide +kernel
theorem dX12_coolest_86 : decode cX12_coolest 86 = .ok (.if_icmp .gt 6, 3) := by decide +kernel
theorem dX12_coolest_89 : decode cX12_coolest 89 = .ok (.goto 15, 3) := by decide +kernel
theorem dX12_coolest_92 : decode cX12_coolest 92 = .ok (.bipush 10, 2) := by decide +kernel
theorem dX12_coolest_94 : decode cX12_coolest 94 = .ok (.iload 4, 2) := by decide +kernel
theorem dX12_coolest_96 : decode cX12_coolest 96 = .ok (.imul, 1) := by decide +kernel
theorem dX12_coolest_97 : decode cX12_coolest 97 = .ok (.iload 5, 2) := by decide +kernel
theorem dX12_coolest_99 : decode cX12_coolest 99 = .ok (.iadd, 1) := by decide +kernel
theorem dX12_coolest_100 : decode cX12_coolest 100 = .ok (.istore_n 2, 1) := by decide +kernel
theorem dX12_coolest_101 : decode cX12_coolest 101 = .ok (.iload 6, 2) := by decide +kernel
theorem dX12_coolest_103 : decode cX12_coolest 103 = .ok (.istore_n 3, 1) := by decide +kernel
theorem dX12_coolest_104 : decode cX12_coolest 104 = .ok (.iinc 5 1, 3) := by decide +kernel
theorem dX12_coolest_107 : decode cX12_coolest 107 = .ok (.goto (-53), 3) := by decide +kernel
theorem dX12_coolest_110 : decode cX12_coolest 110 = .ok (.iinc 4 1, 3) := by decide +kernel
theorem dX12_coolest_113 : decode cX12_coolest 113 = .ok (.goto (-76), 3) := by decide +kernel
theorem dX12_coolest_116 : decode cX12_coolest 116 = .ok (.iload_n 1, 1) := by decide +kernel
theorem dX12_coolest_117 : decode cX12_coolest 117 = .ok (.ifCond .eq 8, 3) := by decide +kernel
theorem dX12_coolest_120 : decode cX12_coolest 120 = .ok (.iload_n 2, 1) := by decide +kernel
theorem dX12_coolest_121 : decode cX12_coolest 121 = .ok (.iconst (-1), 1) := by decide +kernel
theorem dX12_coolest_122 : decode cX12_coolest 122 = .ok (.if_icmp .ne 7, 3) := by decide +kernel
theorem dX12_coolest_125 : decode cX12_coolest 125 = .ok (.iload_n 2, 1) := by decide +kernel
theorem dX12_coolest_126 : decode cX12_coolest 126 = .ok (.goto 4, 3) := by decide +kernel
theorem dX12_coolest_129 : decode cX12_coolest 129 = .ok (.iload_n 3, 1) := by decide +kernel
theorem dX12_coolest_130 : decode cX12_coolest 130 = .ok (.ireturn, 1) := by decide +kernel
theorem dX12_round_0 : decode cX12_round 0 = .ok (.aload_n 0, 1) := by decide +kernel
theorem dX12_round_1 : decode cX12_round 1 = .ok (.iconst 0, 1) := by decide +kernel
theorem dX12_round_2 : decode cX12_round 2 = .ok (.putfield 104, 3) := by decide +kernel
theorem dX12_round_5 : decode cX12_round 5 = .ok (.aload_n 0, 1) := by decide +kernel
theorem dX12_round_6 : decode cX12_round 6 = .ok (.aload_n 0, 1) := by decide +kernel
theorem dX12_round_7 : decode cX12_round 7 = .ok (.iload_n 1, 1) := by decide +kernel
theorem dX12_round_8 : decode cX12_round 8 = .ok (.invokevirtual 348, 3) := by decide +kernel
theorem dX12_round_11 : decode cX12_round 11 = .ok (.ifCond .ne 7, 3) := by decide +kernel
theorem dX12_round_14 : decode cX12_round 14 = .ok (.iconst 1, 1) := by decide +kernel
theorem dX12_round_15 : decode cX12_round 15 = .ok (.goto 4, 3) := by decide +kernel
theorem dX12_round_18 : decode cX12_round 18 = .ok (.iconst 0, 1) := by decide +kernel
theorem dX12_round_19 : decode cX12_round 19 = .ok (.iconst 1, 1) := by decide +kernel
theorem dX12_round_20 : decode cX12_round 20 = .ok (.iconst 0, 1) := by decide +kernel
theorem dX12_round_21 : decode cX12_round 21 = .ok (.invokevirtual 183, 3) := by decide +kernel
theorem dX12_round_24 : decode cX12_round 24 = .ok (.ifCond .eq 5, 3) := by decide +kernel
theorem dX12_round_27 : decode cX12_round 27 = .ok (.iconst 0, 1) := by decide +kernel
theorem dX12_round_28 : decode cX12_round 28 = .ok (.ireturn, 1) := by decide +kernel
theorem dX12_round_29 : decode cX12_round 29 = .ok (.iconst 1, 1) := by decide +kernel
theorem dX12_round_30 : decode cX12_round 30 = .ok (.iload_n 1, 1) := by decide +kernel
theorem dX12_round_31 : decode cX12_round 31 = .ok (.ishl, 1) := by decide +kernel
theorem dX12_round_32 : decode cX12_round 32 = .ok (.istore_n 2, 1) := by decide +kernel
theorem dX12_round_33 : decode cX12_round 33 = .ok (.iconst 0, 1) := by decide +kernel
theorem dX12_round_34 : decode cX12_round 34 = .ok (.istore_n 3, 1) := by decide +kernel
theorem dX12_round_35 : decode cX12_round 35 = .ok (.iload_n 3, 1) := by decide +kernel
theorem dX12_round_36 : decode cX12_round 36 = .ok (.aload_n 0, 1) := by decide +kernel
theorem dX12_round_37 : decode cX12_round 37 = .ok (.getfield 23, 3) := by decide +kernel
theorem dX12_round_40 : decode cX12_round 40 = .ok (.iconst 0, 1) := by decide +kernel
theorem dX12_round_41 : decode cX12_round 41 = .ok (.iaload, 1) := by decide +kernel
theorem dX12_round_42 : decode cX12_round 42 = .ok (.if_icmp .ge 15, 3) := by decide +kernel
theorem dX12_round_45 : decode cX12_round 45 = .ok (.aload_n 0, 1) := by decide +kernel
theorem dX12_round_46 : decode cX12_round 46 = .ok (.iload_n 2, 1) := by decide +kernel
theorem dX12_round_47 : decode cX12_round 47 = .ok (.invokevirtual 381, 3) := by decide +kernel
theorem dX12_round_50 : decode cX12_round 50 = .ok (.istore_n 2, 1) := by decide +kernel
theorem dX12_round_51 : decode cX12_round 51 = .ok (.iinc 3 1, 3) := by decide +kernel
theorem dX12_round_54 : decode cX12_round 54 = .ok (.goto (-19), 3) := by decide +kernel
theorem dX12_round_57 : decode cX12_round 57 = .ok (.iload_n 2, 1) := by decide +kernel
theorem dX12_round_58 : decode cX12_round 58 = .ok (.ireturn, 1) := by decide +kernel
theorem dX12_overrun_0 : decode cX12_overrun 0 = .ok (.aload_n 0, 1) := by decide +kernel
theorem dX12_overrun_1 : decode cX12_overrun 1 = .ok (.iconst 0, 1) := by decide +kernel
theorem dX12_overrun_2 : decode cX12_overrun 2 = .ok (.putfield 104, 3) := by decide +kernel
theorem dX12_overrun_5 : decode cX12_overrun 5 = .ok (.iconst 0, 1) := by decide +kernel
theorem dX12_overrun_6 : decode cX12_overrun 6 = .ok (.istore_n 1, 1) := by decide +kernel
theorem dX12_overrun_7 : decode cX12_overrun 7 = .ok (.iconst 0, 1) := by decide +kernel
theorem dX12_overrun_8 : decode cX12_overrun 8 = .ok (.istore_n 2, 1) := by decide +kernel
theorem dX12_overrun_9 : decode cX12_overrun 9 = .ok (.iload_n 2, 1) := by decide +kernel
theorem dX12_overrun_10 : decode cX12_overrun 10 = .ok (.aload_n 0, 1) := by decide +kernel
theorem dX12_overrun_11 : decode cX12_overrun 11 = .ok (.getfield 23, 3) := by decide +kernel
theorem dX12_overrun_14 : decode cX12_overrun 14 = .ok (.iconst 0, 1) := by decide +kernel
theorem dX12_overrun_15 : decode cX12_overrun 15 = .ok (.iaload, 1) := by decide +kernel
theorem dX12_overrun_16 : decode cX12_overrun 16 = .ok (.if_icmp .ge 43, 3) := by decide +kernel
theorem dX12_overrun_19 : decode cX12_overrun 19 = .ok (.iload_n 1, 1) := by decide +kernel
theorem dX12_overrun_20 : decode cX12_overrun 20 = .ok (.aload_n 0, 1) := by decide +kernel
theorem dX12_overrun_21 : decode cX12_overrun 21 = .ok (.aload_n 0, 1) := by decide +kernel
theorem dX12_overrun_22 : decode cX12_overrun 22 = .ok (.getfield 67, 3) := by decide +kernel
theorem dX12_overrun_25 : decode cX12_overrun 25 = .ok (.iload_n 2, 1) := by decide +kernel
theorem dX12_overrun_26 : decode cX12_overrun 26 = .ok (.invokestatic 277, 3) := by decide +kernel
theorem dX12_overrun_29 : decode cX12_overrun 29 = .ok (.invokevirtual 345, 3) := by decide +kernel
theorem dX12_overrun_32 : decode cX12_overrun 32 = .ok (.aload_n 0, 1) := by decide +kernel
theorem dX12_overrun_33 : decode cX12_overrun 33 = .ok (.getfield 67, 3) := by decide +kernel
theorem dX12_overrun_36 : decode cX12_overrun 36 = .ok (.bipush 39, 2) := by decide +kernel
theorem dX12_overrun_38 : decode cX12_overrun 38 = .ok (.iload_n 2, 1) := by decide +kernel
theorem dX12_overrun_39 : decode cX12_overrun 39 = .ok (.iadd, 1) := by decide +kernel
theorem dX12_overrun_40 : decode cX12_overrun 40 = .ok (.iaload, 1) := by decide +kernel
theorem dX12_overrun_41 : decode cX12_overrun 41 = .ok (.if_icmp .le 9, 3) := by decide +kernel
theorem dX12_overrun_44 : decode cX12_overrun 44 = .ok (.iconst 1, 1) := by decide +kernel
theorem dX12_overrun_45 : decode cX12_overrun 45 = .ok (.iload_n 2, 1) := by decide +kernel
theorem dX12_overrun_46 : decode cX12_overrun 46 = .ok (.ishl, 1) := by decide +kernel
theorem dX12_overrun_47 : decode cX12_overrun 47 = .ok (.goto 4, 3) := by decide +kernel
theorem dX12_overrun_50 : decode cX12_overrun 50 = .ok (.iconst 0, 1) := by decide +kernel
theorem dX12_overrun_51 : decode cX12_overrun 51 = .ok (.ior, 1) := by decide +kernel
theorem dX12_overrun_52 : decode cX12_overrun 52 = .ok (.istore_n 1, 1) := by decide +kernel
theorem dX12_overrun_53 : decode cX12_overrun 53 = .ok (.iinc 2 1, 3) := by decide +kernel
theorem dX12_overrun_56 : decode cX12_overrun 56 = .ok (.goto (-47), 3) := by decide +kernel
theorem dX12_overrun_59 : decode cX12_overrun 59 = .ok (.iload_n 1, 1) := by decide +kernel
theorem dX12_overrun_60 : decode cX12_overrun 60 = .ok (.ireturn, 1) := by decide +kernel
theorem dX12_good_0 : decode cX12_good 0 = .ok (.aload_n 0, 1) := by decide +kernel
theorem dX12_good_1 : decode cX12_good 1 = .ok (.iconst 0, 1) := by decide +kernel
theorem dX12_good_2 : decode cX12_good 2 = .ok (.putfield 104, 3) := by decide +kernel
theorem dX12_good_5 : decode cX12_good 5 = .ok (.aload_n 0, 1) := by decide +kernel
theorem dX12_good_6 : decode cX12_good 6 = .ok (.iload_n 1, 1) := by decide +kernel
theorem dX12_good_7 : decode cX12_good 7 = .ok (.iconst 0, 1) := by decide +kernel
theorem dX12_good_8 : decode cX12_good 8 = .ok (.iconst 2, 1) := by decide +kernel
theorem dX12_good_9 : decode cX12_good 9 = .ok (.invokestatic 138, 3) := by decide +kernel
theorem dX12_good_12 : decode cX12_good 12 = .ok (.ifCond .ne 7, 3) := by decide +kernel
theorem dX12_good_15 : decode cX12_good 15 = .ok (.iconst 1, 1) := by decide +kernel
theorem dX12_good_16 : decode cX12_good 16 = .ok (.goto 4, 3) := by decide +kernel
theorem dX12_good_19 : decode cX12_good 19 = .ok (.iconst 0, 1) := by decide +kernel
theorem dX12_good_20 : decode cX12_good 20 = .ok (.iconst 1, 1) := by decide +kernel
theorem dX12_good_21 : decode cX12_good 21 = .ok (.iconst 1, 1) := by decide +kernel
theorem dX12_good_22 : decode cX12_good 22 = .ok (.invokevirtual 183, 3) := by decide +kernel
theorem dX12_good_25 : decode cX12_good 25 = .ok (.ifCond .eq 5, 3) := by decide +kernel
theorem dX12_good_28 : decode cX12_good 28 = .ok (.iconst 0, 1) := by decide +kernel
theorem dX12_good_29 : decode cX12_good 29 = .ok (.ireturn, 1) := by decide +kernel
theorem dX12_good_30 : decode cX12_good 30 = .ok (.iconst 0, 1) := by decide +kernel
theorem dX12_good_31 : decode cX12_good 31 = .ok (.istore_n 2, 1) := by decide +kernel
theorem dX12_good_32 : decode cX12_good 32 = .ok (.iconst 0, 1) := by decide +kernel
theorem dX12_good_33 : decode cX12_good 33 = .ok (.istore_n 3, 1) := by decide +kernel
theorem dX12_good_34 : decode cX12_good 34 = .ok (.iload_n 3, 1) := by decide +kernel
theorem dX12_good_35 : decode cX12_good 35 = .ok (.aload_n 0, 1) := by decide +kernel
theorem dX12_good_36 : decode cX12_good 36 = .ok (.getfield 23, 3) := by decide +kernel
theorem dX12_good_39 : decode cX12_good 39 = .ok (.iconst 0, 1) := by decide +kernel
theorem dX12_good_40 : decode cX12_good 40 = .ok (.iaload, 1) := by decide +kernel
theorem dX12_good_41 : decode cX12_good 41 = .ok (.if_icmp .ge 63, 3) := by decide +kernel
theorem dX12_good_44 : decode cX12_good 44 = .ok (.aload_n 0, 1) := by decide +kernel
theorem dX12_good_45 : decode cX12_good 45 = .ok (.iload_n 3, 1) := by decide +kernel
theorem dX12_good_46 : decode cX12_good 46 = .ok (.iconst 0, 1) := by decide +kernel
theorem dX12_good_47 : decode cX12_good 47 = .ok (.invokevirtual 351, 3) := by decide +kernel
theorem dX12_good_50 : decode cX12_good 50 = .ok (.invokestatic 281, 3) := by decide +kernel
theorem dX12_good_53 : decode cX12_good 53 = .ok (.aload_n 0, 1) := by decide +kernel
theorem dX12_good_54 : decode cX12_good 54 = .ok (.iload_n 3, 1) := by decide +kernel
theorem dX12_good_55 : decode cX12_good 55 = .ok (.iconst 1, 1) := by decide +kernel
theorem dX12_good_56 : decode cX12_good 56 = .ok (.invokevirtual 351, 3) := by decide +kernel
theorem dX12_good_59 : decode cX12_good 59 = .ok (.invokestatic 281, 3) := by decide +kernel
theorem dX12_good_62 : decode cX12_good 62 = .ok (.isub, 1) := by decide +kernel
theorem dX12_good_63 : decode cX12_good 63 = .ok (.istore 4, 2) := by decide +kernel
theorem dX12_good_65 : decode cX12_good 65 = .ok (.iload_n 2, 1) := by decide +kernel
theorem dX12_good_66 : decode cX12_good 66 = .ok (.iload 4, 2) := by decide +kernel
theorem dX12_good_68 : decode cX12_good 68 = .ok (.ifCond .le 7, 3) := by decide +kernel
theorem dX12_good_71 : decode cX12_good 71 = .ok (.iconst 0, 1) := by decide +kernel
theorem dX12_good_72 : decode cX12_good 72 = .ok (.goto 13, 3) := by decide +kernel
theorem dX12_good_75 : decode cX12_good 75 = .ok (.iload 4, 2) := by decide +kernel
theorem dX12_good_77 : decode cX12_good 77 = .ok (.ifCond .ne 7, 3) := by decide +kernel
theorem dX12_good_80 : decode cX12_good 80 = .ok (.iconst 1, 1) := by decide +kernel
theorem dX12_good_81 : decode cX12_good 81 = .ok (.goto 4, 3) := by decide +kernel
theorem dX12_good_84 : decode cX12_good 84 = .ok (.iconst 2, 1) := by decide +kernel
theorem dX12_good_85 : decode cX12_good 85 = .ok (.iload_n 1, 1) := by decide +kernel
theorem dX12_good_86 : decode cX12_good 86 = .ok (.if_icmp .ne 9, 3) := by decide +kernel
theorem dX12_good_89 : decode cX12_good 89 = .ok (.iconst 1, 1) := by decide +kernel
theorem dX12_good_90 : decode cX12_good 90 = .ok (.iload_n 3, 1) := by decide +kernel
theorem dX12_good_91 : decode cX12_good 91 = .ok (.ishl, 1) := by decide +kernel
theorem dX12_good_92 : decode cX12_good 92 = .ok (.goto 4, 3) := by decide +kernel
theorem dX12_good_95 : decode cX12_good 95 = .ok (.iconst 0, 1) := by decide +kernel
theorem dX12_good_96 : decode cX12_good 96 = .ok (.ior, 1) := by decide +kernel
theorem dX12_good_97 : decode cX12_good 97 = .ok (.istore_n 2, 1) := by decide +kernel
theorem dX12_good_98 : decode cX12_good 98 = .ok (.iinc 3 1, 3) := by decide +kernel
theorem dX12_good_101 : decode cX12_good 101 = .ok (.goto (-67), 3) := by decide +kernel
theorem dX12_good_104 : decode cX12_good 104 = .ok (.iload_n 2, 1) := by decide +kernel
theorem dX12_good_105 : decode cX12_good 105 = .ok (.ireturn, 1) := by decide +kernel
theorem dX12_kind_0 : decode cX12_kind 0 = .ok (.aload_n 0, 1) := by decide +kernel
theorem dX12_kind_1 : decode cX12_kind 1 = .ok (.iconst 0, 1) := by decide +kernel
theorem dX12_kind_2 : decode cX12_kind 2 = .ok (.putfield 104, 3) := by decide +kernel
theorem dX12_kind_5 : decode cX12_kind 5 = .ok (.aload_n 0, 1) := by decide +kernel
theorem dX12_kind_6 : decode cX12_kind 6 = .ok (.iload_n 1, 1) := by decide +kernel
theorem dX12_kind_7 : decode cX12_kind 7 = .ok (.iconst 0, 1) := by decide +kernel
theorem dX12_kind_8 : decode cX12_kind 8 = .ok (.iconst 5, 1) := by decide +kernel
theorem dX12_kind_9 : decode cX12_kind 9 = .ok (.invokestatic 138, 3) := by decide +kernel
theorem dX12_kind_12 : decode cX12_kind 12 = .ok (.ifCond .ne 7, 3) := by decide +kernel
theorem dX12_kind_15 : decode cX12_kind 15 = .ok (.iconst 1, 1) := by decide +kernel
theorem dX12_kind_16 : decode cX12_kind 16 = .ok (.goto 4, 3) := by decide +kernel
theorem dX12_kind_19 : decode cX12_kind 19 = .ok (.iconst 0, 1) := by decide +kernel
theorem dX12_kind_20 : decode cX12_kind 20 = .ok (.iconst 1, 1) := by decide +kernel
theorem dX12_kind_21 : decode cX12_kind 21 = .ok (.iconst 1, 1) := by decide +kernel
theorem dX12_kind_22 : decode cX12_kind 22 = .ok (.invokevirtual 183, 3) := by decide +kernel
theorem dX12_kind_25 : decode cX12_kind 25 = .ok (.ifCond .eq 5, 3) := by decide +kernel
theorem dX12_kind_28 : decode cX12_kind 28 = .ok (.iconst 0, 1) := by decide +kernel
theorem dX12_kind_29 : decode cX12_kind 29 = .ok (.ireturn, 1) := by decide +kernel
theorem dX12_kind_30 : decode cX12_kind 30 = .ok (.iconst 0, 1) := by decide +kernel
theorem dX12_kind_31 : decode cX12_kind 31 = .ok (.istore_n 2, 1) := by decide +kernel
theorem dX12_kind_32 : decode cX12_kind 32 = .ok (.iconst 0, 1) := by decide +kernel
theorem dX12_kind_33 : decode cX12_kind 33 = .ok (.istore_n 3, 1) := by decide +kernel
theorem dX12_kind_34 : decode cX12_kind 34 = .ok (.iload_n 3, 1) := by decide +kernel
theorem dX12_kind_35 : decode cX12_kind 35 = .ok (.aload_n 0, 1) := by decide +kernel
theorem dX12_kind_36 : decode cX12_kind 36 = .ok (.getfield 23, 3) := by decide +kernel
theorem dX12_kind_39 : decode cX12_kind 39 = .ok (.iconst 1, 1) := by decide +kernel
theorem dX12_kind_40 : decode cX12_kind 40 = .ok (.iaload, 1) := by decide +kernel
theorem dX12_kind_41 : decode cX12_kind 41 = .ok (.if_icmp .ge 42, 3) := by decide +kernel
theorem dX12_kind_44 : decode cX12_kind 44 = .ok (.iload_n 2, 1) := by decide +kernel
theorem dX12_kind_45 : decode cX12_kind 45 = .ok (.aload_n 0, 1) := by decide +kernel
theorem dX12_kind_46 : decode cX12_kind 46 = .ok (.getfield 67, 3) := by decide +kernel
theorem dX12_kind_49 : decode cX12_kind 49 = .ok (.iload_n 3, 1) := by decide +kernel
theorem dX12_kind_50 : decode cX12_kind 50 = .ok (.invokestatic 273, 3) := by decide +kernel
theorem dX12_kind_53 : decode cX12_kind 53 = .ok (.ifCond .eq 21, 3) := by decide +kernel
theorem dX12_kind_56 : decode cX12_kind 56 = .ok (.aload_n 0, 1) := by decide +kernel
theorem dX12_kind_57 : decode cX12_kind 57 = .ok (.getfield 37, 3) := by decide +kernel
theorem dX12_kind_60 : decode cX12_kind 60 = .ok (.iload_n 3, 1) := by decide +kernel
theorem dX12_kind_61 : decode cX12_kind 61 = .ok (.aaload, 1) := by decide +kernel
theorem dX12_kind_62 : decode cX12_kind 62 = .ok (.iconst 2, 1) := by decide +kernel
theorem dX12_kind_63 : decode cX12_kind 63 = .ok (.iaload, 1) := by decide +kernel
theorem dX12_kind_64 : decode cX12_kind 64 = .ok (.iload_n 1, 1) := by decide +kernel
theorem dX12_kind_65 : decode cX12_kind 65 = .ok (.if_icmp .ne 9, 3) := by decide +kernel
theorem dX12_kind_68 : decode cX12_kind 68 = .ok (.iconst 1, 1) := by decide +kernel
theorem dX12_kind_69 : decode cX12_kind 69 = .ok (.iload_n 3, 1) := by decide +kernel
theorem dX12_kind_70 : decode cX12_kind 70 = .ok (.ishl, 1) := by decide +kernel
theorem dX12_kind_71 : decode cX12_kind 71 = .ok (.goto 4, 3) := by decide +kernel
theorem dX12_kind_74 : decode cX12_kind 74 = .ok (.iconst 0, 1) := by decide +kernel
theorem dX12_kind_75 : decode cX12_kind 75 = .ok (.ior, 1) := by decide +kernel
theorem dX12_kind_76 : decode cX12_kind 76 = .ok (.istore_n 2, 1) := by decide +kernel
theorem dX12_kind_77 : decode cX12_kind 77 = .ok (.iinc 3 1, 3) := by decide +kernel
theorem dX12_kind_80 : decode cX12_kind 80 = .ok (.goto (-46), 3) := by decide +kernel
theorem dX12_kind_83 : decode cX12_kind 83 = .ok (.iload_n 2, 1) := by decide +kernel
theorem dX12_kind_84 : decode cX12_kind 84 = .ok (.ireturn, 1) := by decide +kernel
theorem dX12_driven_0 : decode cX12_driven 0 = .ok (.aload_n 0, 1) := by decide +kernel
theorem dX12_driven_1 : decode cX12_driven 1 = .ok (.iconst 0, 1) := by decide +kernel
theorem dX12_driven_2 : decode cX12_driven 2 = .ok (.putfield 104, 3) := by decide +kernel
theorem dX12_driven_5 : decode cX12_driven 5 = .ok (.iconst 0, 1) := by decide +kernel
theorem dX12_driven_6 : decode cX12_driven 6 = .ok (.istore_n 1, 1) := by decide +kernel
theorem dX12_driven_7 : decode cX12_driven 7 = .ok (.iconst 0, 1) := by decide +kernel
theorem dX12_driven_8 : decode cX12_driven 8 = .ok (.istore_n 2, 1) := by decide +kernel
theorem dX12_driven_9 : decode cX12_driven 9 = .ok (.iload_n 2, 1) := by decide +kernel
theorem dX12_driven_10 : decode cX12_driven 10 = .ok (.aload_n 0, 1) := by decide +kernel
theorem dX12_driven_11 : decode cX12_driven 11 = .ok (.getfield 23, 3) := by decide +kernel
theorem dX12_driven_14 : decode cX12_driven 14 = .ok (.iconst 1, 1) := by decide +kernel
theorem dX12_driven_15 : decode cX12_driven 15 = .ok (.iaload, 1) := by decide +kernel
theorem dX12_driven_16 : decode cX12_driven 16 = .ok (.if_icmp .ge 50, 3) := by decide +kernel
theorem dX12_driven_19 : decode cX12_driven 19 = .ok (.iload_n 1, 1) := by decide +kernel
theorem dX12_driven_20 : decode cX12_driven 20 = .ok (.aload_n 0, 1) := by decide +kernel
theorem dX12_driven_21 : decode cX12_driven 21 = .ok (.getfield 67, 3) := by decide +kernel
theorem dX12_driven_24 : decode cX12_driven 24 = .ok (.iload_n 2, 1) := by decide +kernel
theorem dX12_driven_25 : decode cX12_driven 25 = .ok (.invokestatic 273, 3) := by decide +kernel
theorem dX12_driven_28 : decode cX12_driven 28 = .ok (.ifCond .eq 29, 3) := by decide +kernel
theorem dX12_driven_31 : decode cX12_driven 31 = .ok (.aload_n 0, 1) := by decide +kernel
theorem dX12_driven_32 : decode cX12_driven 32 = .ok (.getfield 67, 3) := by decide +kernel
theorem dX12_driven_35 : decode cX12_driven 35 = .ok (.bipush 26, 2) := by decide +kernel
theorem dX12_driven_37 : decode cX12_driven 37 = .ok (.iload_n 2, 1) := by decide +kernel
theorem dX12_driven_38 : decode cX12_driven 38 = .ok (.iadd, 1) := by decide +kernel
theorem dX12_driven_39 : decode cX12_driven 39 = .ok (.iaload, 1) := by decide +kernel
theorem dX12_driven_40 : decode cX12_driven 40 = .ok (.aload_n 0, 1) := by decide +kernel
theorem dX12_driven_41 : decode cX12_driven 41 = .ok (.getfield 37, 3) := by decide +kernel
theorem dX12_driven_44 : decode cX12_driven 44 = .ok (.iload_n 2, 1) := by decide +kernel
theorem dX12_driven_45 : decode cX12_driven 45 = .ok (.aaload, 1) := by decide +kernel
theorem dX12_driven_46 : decode cX12_driven 46 = .ok (.iconst 0, 1) := by decide +kernel
theorem dX12_driven_47 : decode cX12_driven 47 = .ok (.iaload, 1) := by decide +kernel
theorem dX12_driven_48 : decode cX12_driven 48 = .ok (.if_icmp .eq 9, 3) := by decide +kernel
theorem dX12_driven_51 : decode cX12_driven 51 = .ok (.iconst 1, 1) := by decide +kernel
theorem dX12_driven_52 : decode cX12_driven 52 = .ok (.iload_n 2, 1) := by decide +kernel
theorem dX12_driven_53 : decode cX12_driven 53 = .ok (.ishl, 1) := by decide +kernel
theorem dX12_driven_54 : decode cX12_driven 54 = .ok (.goto 4, 3) := by decide +kernel
theorem dX12_driven_57 : decode cX12_driven 57 = .ok (.iconst 0, 1) := by decide +kernel
theorem dX12_driven_58 : decode cX12_driven 58 = .ok (.ior, 1) := by decide +kernel
theorem dX12_driven_59 : decode cX12_driven 59 = .ok (.istore_n 1, 1) := by decide +kernel
theorem dX12_driven_60 : decode cX12_driven 60 = .ok (.iinc 2 1, 3) := by decide +kernel
theorem dX12_driven_63 : decode cX12_driven 63 = .ok (.goto (-54), 3) := by decide +kernel
theorem dX12_driven_66 : decode cX12_driven 66 = .ok (.iload_n 1, 1) := by decide +kernel
theorem dX12_driven_67 : decode cX12_driven 67 = .ok (.ireturn, 1) := by decide +kernel
theorem dX12_draw_0 : decode cX12_draw 0 = .ok (.aload_n 0, 1) := by decide +kernel
theorem dX12_draw_1 : decode cX12_draw 1 = .ok (.aload_n 0, 1) := by decide +kernel
theorem dX12_draw_2 : decode cX12_draw 2 = .ok (.getfield 404, 3) := by decide +kernel
theorem dX12_draw_5 : decode cX12_draw 5 = .ok (.ldc_w 407, 3) := by decide +kernel
theorem dX12_draw_8 : decode cX12_draw 8 = .ok (.imul, 1) := by decide +kernel
theorem dX12_draw_9 : decode cX12_draw 9 = .ok (.sipush 12345, 3) := by decide +kernel
theorem dX12_draw_12 : decode cX12_draw 12 = .ok (.iadd, 1) := by decide +kernel
theorem dX12_draw_13 : decode cX12_draw 13 = .ok (.putfield 404, 3) := by decide +kernel
theorem dX12_draw_16 : decode cX12_draw 16 = .ok (.aload_n 0, 1) := by decide +kernel
theorem dX12_draw_17 : decode cX12_draw 17 = .ok (.getfield 404, 3) := by decide +kernel
theorem dX12_draw_20 : decode cX12_draw 20 = .ok (.bipush 16, 2) := by decide +kernel
theorem dX12_draw_22 : decode cX12_draw 22 = .ok (.ishr, 1) := by decide +kernel
theorem dX12_draw_23 : decode cX12_draw 23 = .ok (.sipush 32767, 3) := by decide +kernel
theorem dX12_draw_26 : decode cX12_draw 26 = .ok (.iand, 1) := by decide +kernel
theorem dX12_draw_27 : decode cX12_draw 27 = .ok (.iload_n 1, 1) := by decide +kernel
theorem dX12_draw_28 : decode cX12_draw 28 = .ok (.irem, 1) := by decide +kernel
theorem dX12_draw_29 : decode cX12_draw 29 = .ok (.ireturn, 1) := by decide +kernel
theorem dX12_decadeBy_0 : decode cX12_decadeBy 0 = .ok (.aload_n 0, 1) := by decide +kernel
theorem dX12_decadeBy_1 : decode cX12_decadeBy 1 = .ok (.getfield 67, 3) := by decide +kernel
theorem dX12_decadeBy_4 : decode cX12_decadeBy 4 = .ok (.aload_n 0, 1) := by decide +kernel
theorem dX12_decadeBy_5 : decode cX12_decadeBy 5 = .ok (.getfield 70, 3) := by decide +kernel
theorem dX12_decadeBy_8 : decode cX12_decadeBy 8 = .ok (.invokestatic 331, 3) := by decide +kernel
theorem dX12_decadeBy_11 : decode cX12_decadeBy 11 = .ok (.aload_n 0, 1) := by decide +kernel
theorem dX12_decadeBy_12 : decode cX12_decadeBy 12 = .ok (.iload_n 1, 1) := by decide +kernel
theorem dX12_decadeBy_13 : decode cX12_decadeBy 13 = .ok (.putfield 404, 3) := by decide +kernel
theorem dX12_decadeBy_16 : decode cX12_decadeBy 16 = .ok (.iconst 0, 1) := by decide +kernel
theorem dX12_decadeBy_17 : decode cX12_decadeBy 17 = .ok (.istore 4, 2) := by decide +kernel
theorem dX12_decadeBy_19 : decode cX12_decadeBy 19 = .ok (.iload 4, 2) := by decide +kernel
theorem dX12_decadeBy_21 : decode cX12_decadeBy 21 = .ok (.iload_n 2, 1) := by decide +kernel
theorem dX12_decadeBy_22 : decode cX12_decadeBy 22 = .ok (.if_icmp .ge 103, 3) := by decide +kernel
theorem dX12_decadeBy_25 : decode cX12_decadeBy 25 = .ok (.aload_n 0, 1) := by decide +kernel
theorem dX12_decadeBy_26 : decode cX12_decadeBy 26 = .ok (.getfield 23, 3) := by decide +kernel
theorem dX12_decadeBy_29 : decode cX12_decadeBy 29 = .ok (.iconst 1, 1) := by decide +kernel
theorem dX12_decadeBy_30 : decode cX12_decadeBy 30 = .ok (.iaload, 1) := by decide +kernel
theorem dX12_decadeBy_31 : decode cX12_decadeBy 31 = .ok (.ifCond .le 80, 3) := by decide +kernel
theorem dX12_decadeBy_34 : decode cX12_decadeBy 34 = .ok (.aload_n 0, 1) := by decide +kernel
theorem dX12_decadeBy_35 : decode cX12_decadeBy 35 = .ok (.aload_n 0, 1) := by decide +kernel
theorem dX12_decadeBy_36 : decode cX12_decadeBy 36 = .ok (.getfield 23, 3) := by decide +kernel
theorem dX12_decadeBy_39 : decode cX12_decadeBy 39 = .ok (.iconst 1, 1) := by decide +kernel
theorem dX12_decadeBy_40 : decode cX12_decadeBy 40 = .ok (.iaload, 1) := by decide +kernel
theorem dX12_decadeBy_41 : decode cX12_decadeBy 41 = .ok (.invokevirtual 408, 3) := by decide +kernel
theorem dX12_decadeBy_44 : decode cX12_decadeBy 44 = .ok (.istore 5, 2) := by decide +kernel
theorem dX12_decadeBy_46 : decode cX12_decadeBy 46 = .ok (.aload_n 0, 1) := by decide +kernel
theorem dX12_decadeBy_47 : decode cX12_decadeBy 47 = .ok (.getfield 70, 3) := by decide +kernel
theorem dX12_decadeBy_50 : decode cX12_decadeBy 50 = .ok (.iload 5, 2) := by decide +kernel
theorem dX12_decadeBy_52 : decode cX12_decadeBy 52 = .ok (.invokestatic 300, 3) := by decide +kernel
theorem dX12_decadeBy_55 : decode cX12_decadeBy 55 = .ok (.ifCond .ne 14, 3) := by decide +kernel
theorem dX12_decadeBy_58 : decode cX12_decadeBy 58 = .ok (.aload_n 0, 1) := by decide +kernel
theorem dX12_decadeBy_59 : decode cX12_decadeBy 59 = .ok (.aload_n 0, 1) := by decide +kernel
theorem dX12_decadeBy_60 : decode cX12_decadeBy 60 = .ok (.getfield 70, 3) := by decide +kernel
theorem dX12_decadeBy_63 : decode cX12_decadeBy 63 = .ok (.iload 5, 2) := by decide +kernel
theorem dX12_decadeBy_65 : decode cX12_decadeBy 65 = .ok (.invokevirtual 311, 3) := by decide +kernel
theorem dX12_decadeBy_68 : decode cX12_decadeBy 68 = .ok (.pop, 1) := by decide +kernel
theorem dX12_decadeBy_69 : decode cX12_decadeBy 69 = .ok (.aload_n 0, 1) := by decide +kernel
theorem dX12_decadeBy_70 : decode cX12_decadeBy 70 = .ok (.bipush 16, 2) := by decide +kernel
theorem dX12_decadeBy_72 : decode cX12_decadeBy 72 = .ok (.invokevirtual 408, 3) := by decide +kernel
theorem dX12_decadeBy_75 : decode cX12_decadeBy 75 = .ok (.iload_n 3, 1) := by decide +kernel
theorem dX12_decadeBy_76 : decode cX12_decadeBy 76 = .ok (.if_icmp .ge 35, 3) := by decide +kernel
theorem dX12_decadeBy_79 : decode cX12_decadeBy 79 = .ok (.aload_n 0, 1) := by decide +kernel
theorem dX12_decadeBy_80 : decode cX12_decadeBy 80 = .ok (.aload_n 0, 1) := by decide +kernel
theorem dX12_decadeBy_81 : decode cX12_decadeBy 81 = .ok (.getfield 23, 3) := by decide +kernel
theorem dX12_decadeBy_84 : decode cX12_decadeBy 84 = .ok (.iconst 1, 1) := by decide +kernel
theorem dX12_decadeBy_85 : decode cX12_decadeBy 85 = .ok (.iaload, 1) := by decide +kernel
theorem dX12_decadeBy_86 : decode cX12_decadeBy 86 = .ok (.invokevirtual 408, 3) := by decide +kernel
theorem dX12_decadeBy_89 : decode cX12_decadeBy 89 = .ok (.istore 6, 2) := by decide +kernel
theorem dX12_decadeBy_91 : decode cX12_decadeBy 91 = .ok (.aload_n 0, 1) := by decide +kernel
theorem dX12_decadeBy_92 : decode cX12_decadeBy 92 = .ok (.getfield 70, 3) := by decide +kernel
theorem dX12_decadeBy_95 : decode cX12_decadeBy 95 = .ok (.iload 6, 2) := by decide +kernel
theorem dX12_decadeBy_97 : decode cX12_decadeBy 97 = .ok (.aload_n 0, 1) := by decide +kernel
theorem dX12_decadeBy_98 : decode cX12_decadeBy 98 = .ok (.aload_n 0, 1) := by decide +kernel
theorem dX12_decadeBy_99 : decode cX12_decadeBy 99 = .ok (.getfield 23, 3) := by decide +kernel
theorem dX12_decadeBy_102 : decode cX12_decadeBy 102 = .ok (.iconst 0, 1) := by decide +kernel
theorem dX12_decadeBy_103 : decode cX12_decadeBy 103 = .ok (.iaload, 1) := by decide +kernel
theorem dX12_decadeBy_104 : decode cX12_decadeBy 104 = .ok (.invokevirtual 408, 3) := by decide +kernel
theorem dX12_decadeBy_107 : decode cX12_decadeBy 107 = .ok (.invokestatic 303, 3) := by decide +kernel
theorem dX12_decadeBy_110 : decode cX12_decadeBy 110 = .ok (.pop, 1) := by decide +kernel
theorem dX12_decadeBy_111 : decode cX12_decadeBy 111 = .ok (.aload_n 0, 1) := by decide +kernel
theorem dX12_decadeBy_112 : decode cX12_decadeBy 112 = .ok (.aload_n 0, 1) := by decide +kernel
theorem dX12_decadeBy_113 : decode cX12_decadeBy 113 = .ok (.getfield 70, 3) := by decide +kernel
theorem dX12_decadeBy_116 : decode cX12_decadeBy 116 = .ok (.invokevirtual 314, 3) := by decide +kernel
theorem dX12_decadeBy_119 : decode cX12_decadeBy 119 = .ok (.iinc 4 1, 3) := by decide +kernel
theorem dX12_decadeBy_122 : decode cX12_decadeBy 122 = .ok (.goto (-103), 3) := by decide +kernel
theorem dX12_decadeBy_125 : decode cX12_decadeBy 125 = .ok (.return_, 1) := by decide +kernel
theorem dX12_isDecade_0 : decode cX12_isDecade 0 = .ok (.iload_n 0, 1) := by decide +kernel
theorem dX12_isDecade_1 : decode cX12_isDecade 1 = .ok (.iconst 1, 1) := by decide +kernel
theorem dX12_isDecade_2 : decode cX12_isDecade 2 = .ok (.bipush 96, 2) := by decide +kernel
theorem dX12_isDecade_4 : decode cX12_isDecade 4 = .ok (.invokestatic 138, 3) := by decide +kernel
theorem dX12_isDecade_7 : decode cX12_isDecade 7 = .ok (.ifCond .eq 17, 3) := by decide +kernel
theorem dX12_isDecade_10 : decode cX12_isDecade 10 = .ok (.iload_n 1, 1) := by decide +kernel
theorem dX12_isDecade_11 : decode cX12_isDecade 11 = .ok (.iconst 0, 1) := by decide +kernel
theorem dX12_isDecade_12 : decode cX12_isDecade 12 = .ok (.bipush 16, 2) := by decide +kernel
theorem dX12_isDecade_14 : decode cX12_isDecade 14 = .ok (.invokestatic 138, 3) := by decide +kernel
theorem dX12_isDecade_17 : decode cX12_isDecade 17 = .ok (.ifCond .eq 7, 3) := by decide +kernel
theorem dX12_isDecade_20 : decode cX12_isDecade 20 = .ok (.iconst 1, 1) := by decide +kernel
theorem dX12_isDecade_21 : decode cX12_isDecade 21 = .ok (.goto 4, 3) := by decide +kernel
theorem dX12_isDecade_24 : decode cX12_isDecade 24 = .ok (.iconst 0, 1) := by decide +kernel
theorem dX12_isDecade_25 : decode cX12_isDecade 25 = .ok (.ireturn, 1) := by decide +kernel
theorem dX12_decade_0 : decode cX12_decade 0 = .ok (.aload_n 0, 1) := by decide +kernel
theorem dX12_decade_1 : decode cX12_decade 1 = .ok (.iconst 0, 1) := by decide +kernel
theorem dX12_decade_2 : decode cX12_decade 2 = .ok (.putfield 104, 3) := by decide +kernel
theorem dX12_decade_5 : decode cX12_decade 5 = .ok (.aload_n 0, 1) := by decide +kernel
theorem dX12_decade_6 : decode cX12_decade 6 = .ok (.iload_n 2, 1) := by decide +kernel
theorem dX12_decade_7 : decode cX12_decade 7 = .ok (.iload_n 3, 1) := by decide +kernel
theorem dX12_decade_8 : decode cX12_decade 8 = .ok (.invokestatic 411, 3) := by decide +kernel
theorem dX12_decade_11 : decode cX12_decade 11 = .ok (.ifCond .eq 13, 3) := by decide +kernel
theorem dX12_decade_14 : decode cX12_decade 14 = .ok (.iload 4, 2) := by decide +kernel
theorem dX12_decade_16 : decode cX12_decade 16 = .ok (.iconst 0, 1) := by decide +kernel
theorem dX12_decade_17 : decode cX12_decade 17 = .ok (.iconst 3, 1) := by decide +kernel
theorem dX12_decade_18 : decode cX12_decade 18 = .ok (.invokestatic 138, 3) := by decide +kernel
theorem dX12_decade_21 : decode cX12_decade 21 = .ok (.ifCond .ne 7, 3) := by decide +kernel
theorem dX12_decade_24 : decode cX12_decade 24 = .ok (.iconst 1, 1) := by decide +kernel
theorem dX12_decade_25 : decode cX12_decade 25 = .ok (.goto 4, 3) := by decide +kernel
theorem dX12_decade_28 : decode cX12_decade 28 = .ok (.iconst 0, 1) := by decide +kernel
theorem dX12_decade_29 : decode cX12_decade 29 = .ok (.iconst 1, 1) := by decide +kernel
theorem dX12_decade_30 : decode cX12_decade 30 = .ok (.iconst 1, 1) := by decide +kernel
theorem dX12_decade_31 : decode cX12_decade 31 = .ok (.invokevirtual 183, 3) := by decide +kernel
theorem dX12_decade_34 : decode cX12_decade 34 = .ok (.ifCond .eq 5, 3) := by decide +kernel
theorem dX12_decade_37 : decode cX12_decade 37 = .ok (.iconst 0, 1) := by decide +kernel
theorem dX12_decade_38 : decode cX12_decade 38 = .ok (.ireturn, 1) := by decide +kernel
theorem dX12_decade_39 : decode cX12_decade 39 = .ok (.aload_n 0, 1) := by decide +kernel
theorem dX12_decade_40 : decode cX12_decade 40 = .ok (.iload_n 1, 1) := by decide +kernel
theorem dX12_decade_41 : decode cX12_decade 41 = .ok (.iload_n 2, 1) := by decide +kernel
theorem dX12_decade_42 : decode cX12_decade 42 = .ok (.iload_n 3, 1) := by decide +kernel
theorem dX12_decade_43 : decode cX12_decade 43 = .ok (.invokevirtual 414, 3) := by decide +kernel
theorem dX12_decade_46 : decode cX12_decade 46 = .ok (.iload 4, 2) := by decide +kernel
theorem dX12_decade_48 : decode cX12_decade 48 = .ok (.ifCond .ne 14, 3) := by decide +kernel
theorem dX12_decade_51 : decode cX12_decade 51 = .ok (.aload_n 0, 1) := by decide +kernel
theorem dX12_decade_52 : decode cX12_decade 52 = .ok (.aload_n 0, 1) := by decide +kernel
theorem dX12_decade_53 : decode cX12_decade 53 = .ok (.getfield 70, 3) := by decide +kernel
theorem dX12_decade_56 : decode cX12_decade 56 = .ok (.invokevirtual 339, 3) := by decide +kernel
theorem dX12_decade_59 : decode cX12_decade 59 = .ok (.goto 50, 3) := by decide +kernel
theorem dX12_decade_62 : decode cX12_decade 62 = .ok (.iload 4, 2) := by decide +kernel
theorem dX12_decade_64 : decode cX12_decade 64 = .ok (.iconst 1, 1) := by decide +kernel
theorem dX12_decade_65 : decode cX12_decade 65 = .ok (.if_icmp .ne 13, 3) := by decide +kernel
theorem dX12_decade_68 : decode cX12_decade 68 = .ok (.aload_n 0, 1) := by decide +kernel
theorem dX12_decade_69 : decode cX12_decade 69 = .ok (.getfield 70, 3) := by decide +kernel
theorem dX12_decade_72 : decode cX12_decade 72 = .ok (.invokestatic 335, 3) := by decide +kernel
theorem dX12_decade_75 : decode cX12_decade 75 = .ok (.goto 34, 3) := by decide +kernel
theorem dX12_decade_78 : decode cX12_decade 78 = .ok (.iload 4, 2) := by decide +kernel
theorem dX12_decade_80 : decode cX12_decade 80 = .ok (.iconst 2, 1) := by decide +kernel
theorem dX12_decade_81 : decode cX12_decade 81 = .ok (.if_icmp .ne 21, 3) := by decide +kernel
theorem dX12_decade_84 : decode cX12_decade 84 = .ok (.aload_n 0, 1) := by decide +kernel
theorem dX12_decade_85 : decode cX12_decade 85 = .ok (.getfield 70, 3) := by decide +kernel
theorem dX12_decade_88 : decode cX12_decade 88 = .ok (.bipush 81, 2) := by decide +kernel
theorem dX12_decade_90 : decode cX12_decade 90 = .ok (.iaload, 1) := by decide +kernel
theorem dX12_decade_91 : decode cX12_decade 91 = .ok (.aload_n 0, 1) := by decide +kernel
theorem dX12_decade_92 : decode cX12_decade 92 = .ok (.getfield 67, 3) := by decide +kernel
theorem dX12_decade_95 : decode cX12_decade 95 = .ok (.bipush 81, 2) := by decide +kernel
theorem dX12_decade_97 : decode cX12_decade 97 = .ok (.iaload, 1) := by decide +kernel
theorem dX12_decade_98 : decode cX12_decade 98 = .ok (.isub, 1) := by decide +kernel
theorem dX12_decade_99 : decode cX12_decade 99 = .ok (.goto 10, 3) := by decide +kernel
theorem dX12_decade_102 : decode cX12_decade 102 = .ok (.aload_n 0, 1) := by decide +kernel
theorem dX12_decade_103 : decode cX12_decade 103 = .ok (.getfield 70, 3) := by decide +kernel
theorem dX12_decade_106 : decode cX12_decade 106 = .ok (.invokestatic 342, 3) := by decide +kernel
theorem dX12_decade_109 : decode cX12_decade 109 = .ok (.ireturn, 1) := by decide +kernel
theorem dX12_span_0 : decode cX12_span 0 = .ok (.aload_n 0, 1) := by decide +kernel
theorem dX12_span_1 : decode cX12_span 1 = .ok (.iconst 0, 1) := by decide +kernel
theorem dX12_span_2 : decode cX12_span 2 = .ok (.putfield 104, 3) := by decide +kernel
theorem dX12_span_5 : decode cX12_span 5 = .ok (.aload_n 0, 1) := by decide +kernel
theorem dX12_span_6 : decode cX12_span 6 = .ok (.iload_n 2, 1) := by decide +kernel
theorem dX12_span_7 : decode cX12_span 7 = .ok (.iconst 1, 1) := by decide +kernel
theorem dX12_span_8 : decode cX12_span 8 = .ok (.bipush 20, 2) := by decide +kernel
theorem dX12_span_10 : decode cX12_span 10 = .ok (.invokestatic 138, 3) := by decide +kernel
theorem dX12_span_13 : decode cX12_span 13 = .ok (.ifCond .eq 31, 3) := by decide +kernel
theorem dX12_span_16 : decode cX12_span 16 = .ok (.iload_n 3, 1) := by decide +kernel
theorem dX12_span_17 : decode cX12_span 17 = .ok (.iload 4, 2) := by decide +kernel
theorem dX12_span_19 : decode cX12_span 19 = .ok (.invokestatic 411, 3) := by decide +kernel
theorem dX12_span_22 : decode cX12_span 22 = .ok (.ifCond .eq 22, 3) := by decide +kernel
theorem dX12_span_25 : decode cX12_span 25 = .ok (.iload 5, 2) := by decide +kernel
theorem dX12_span_27 : decode cX12_span 27 = .ok (.iconst 0, 1) := by decide +kernel
theorem dX12_span_28 : decode cX12_span 28 = .ok (.iconst 2, 1) := by decide +kernel
theorem dX12_span_29 : decode cX12_span 29 = .ok (.invokestatic 138, 3) := by decide +kernel
theorem dX12_span_32 : decode cX12_span 32 = .ok (.ifCond .eq 12, 3) := by decide +kernel
theorem dX12_span_35 : decode cX12_span 35 = .ok (.aload_n 0, 1) := by decide +kernel
theorem dX12_span_36 : decode cX12_span 36 = .ok (.iload 6, 2) := by decide +kernel
theorem dX12_span_38 : decode cX12_span 38 = .ok (.invokevirtual 348, 3) := by decide +kernel
theorem dX12_span_41 : decode cX12_span 41 = .ok (.ifCond .ne 7, 3) := by decide +kernel
theorem dX12_span_44 : decode cX12_span 44 = .ok (.iconst 1, 1) := by decide +kernel
theorem dX12_span_45 : decode cX12_span 45 = .ok (.goto 4, 3) := by decide +kernel
theorem dX12_span_48 : decode cX12_span 48 = .ok (.iconst 0, 1) := by decide +kernel
theorem dX12_span_49 : decode cX12_span 49 = .ok (.iconst 1, 1) := by decide +kernel
theorem dX12_span_50 : decode cX12_span 50 = .ok (.iconst 1, 1) := by decide +kernel
theorem dX12_span_51 : decode cX12_span 51 = .ok (.invokevirtual 183, 3) := by decide +kernel
theorem dX12_span_54 : decode cX12_span 54 = .ok (.ifCond .eq 5, 3) := by decide +kernel
theorem dX12_span_57 : decode cX12_span 57 = .ok (.iconst 0, 1) := by decide +kernel
theorem dX12_span_58 : decode cX12_span 58 = .ok (.ireturn, 1) := by decide +kernel
theorem dX12_span_59 : decode cX12_span 59 = .ok (.iconst (-1), 1) := by decide +kernel
theorem dX12_span_60 : decode cX12_span 60 = .ok (.istore 7, 2) := by decide +kernel
theorem dX12_span_62 : decode cX12_span 62 = .ok (.iconst 0, 1) := by decide +kernel
theorem dX12_span_63 : decode cX12_span 63 = .ok (.istore 8, 2) := by decide +kernel
theorem dX12_span_65 : decode cX12_span 65 = .ok (.iconst 0, 1) := by decide +kernel
theorem dX12_span_66 : decode cX12_span 66 = .ok (.istore 9, 2) := by decide +kernel
theorem dX12_span_68 : decode cX12_span 68 = .ok (.iconst 0, 1) := by decide +kernel
theorem dX12_span_69 : decode cX12_span 69 = .ok (.istore 10, 2) := by decide +kernel
theorem dX12_span_71 : decode cX12_span 71 = .ok (.iload 10, 2) := by decide +kernel
theorem dX12_span_73 : decode cX12_span 73 = .ok (.iload_n 2, 1) := by decide +kernel
theorem dX12_span_74 : decode cX12_span 74 = .ok (.if_icmp .ge 82, 3) := by decide +kernel
theorem dX12_span_77 : decode cX12_span 77 = .ok (.aload_n 0, 1) := by decide +kernel
theorem dX12_span_78 : decode cX12_span 78 = .ok (.iload_n 1, 1) := by decide +kernel
theorem dX12_span_79 : decode cX12_span 79 = .ok (.iload 10, 2) := by decide +kernel
theorem dX12_span_81 : decode cX12_span 81 = .ok (.iadd, 1) := by decide +kernel
theorem dX12_span_82 : decode cX12_span 82 = .ok (.iload_n 3, 1) := by decide +kernel
theorem dX12_span_83 : decode cX12_span 83 = .ok (.iload 4, 2) := by decide +kernel
theorem dX12_span_85 : decode cX12_span 85 = .ok (.invokevirtual 414, 3) := by decide +kernel
theorem dX12_span_88 : decode cX12_span 88 = .ok (.aload_n 0, 1) := by decide +kernel
theorem dX12_span_89 : decode cX12_span 89 = .ok (.aload_n 0, 1) := by decide +kernel
theorem dX12_span_90 : decode cX12_span 90 = .ok (.getfield 70, 3) := by decide +kernel
theorem dX12_span_93 : decode cX12_span 93 = .ok (.invokevirtual 339, 3) := by decide +kernel
theorem dX12_span_96 : decode cX12_span 96 = .ok (.istore 11, 2) := by decide +kernel
theorem dX12_span_98 : decode cX12_span 98 = .ok (.iload 7, 2) := by decide +kernel
theorem dX12_span_100 : decode cX12_span 100 = .ok (.iconst (-1), 1) := by decide +kernel
theorem dX12_span_101 : decode cX12_span 101 = .ok (.if_icmp .ne 8, 3) := by decide +kernel
theorem dX12_span_104 : decode cX12_span 104 = .ok (.iload 11, 2) := by decide +kernel
theorem dX12_span_106 : decode cX12_span 106 = .ok (.goto 10, 3) := by decide +kernel
theorem dX12_span_109 : decode cX12_span 109 = .ok (.iload 7, 2) := by decide +kernel
theorem dX12_span_111 : decode cX12_span 111 = .ok (.iload 11, 2) := by decide +kernel
theorem dX12_span_113 : decode cX12_span 113 = .ok (.invokestatic 247, 3) := by decide +kernel
theorem dX12_span_116 : decode cX12_span 116 = .ok (.istore 7, 2) := by decide +kernel
theorem dX12_span_118 : decode cX12_span 118 = .ok (.iload 8, 2) := by decide +kernel
theorem dX12_span_120 : decode cX12_span 120 = .ok (.iload 11, 2) := by decide +kernel
theorem dX12_span_122 : decode cX12_span 122 = .ok (.invokestatic 250, 3) := by decide +kernel
theorem dX12_span_125 : decode cX12_span 125 = .ok (.istore 8, 2) := by decide +kernel
theorem dX12_span_127 : decode cX12_span 127 = .ok (.iload 9, 2) := by decide +kernel
theorem dX12_span_129 : decode cX12_span 129 = .ok (.aload_n 0, 1) := by decide +kernel
theorem dX12_span_130 : decode cX12_span 130 = .ok (.getfield 70, 3) := by decide +kernel
theorem dX12_span_133 : decode cX12_span 133 = .ok (.bipush 39, 2) := by decide +kernel
theorem dX12_span_135 : decode cX12_span 135 = .ok (.iload 6, 2) := by decide +kernel
theorem dX12_span_137 : decode cX12_span 137 = .ok (.iadd, 1) := by decide +kernel
theorem dX12_span_138 : decode cX12_span 138 = .ok (.iaload, 1) := by decide +kernel
theorem dX12_span_139 : decode cX12_span 139 = .ok (.ifCond .ne 7, 3) := by decide +kernel
theorem dX12_span_142 : decode cX12_span 142 = .ok (.iconst 1, 1) := by decide +kernel
theorem dX12_span_143 : decode cX12_span 143 = .ok (.goto 4, 3) := by decide +kernel
theorem dX12_span_146 : decode cX12_span 146 = .ok (.iconst 0, 1) := by decide +kernel
theorem dX12_span_147 : decode cX12_span 147 = .ok (.iadd, 1) := by decide +kernel
theorem dX12_span_148 : decode cX12_span 148 = .ok (.istore 9, 2) := by decide +kernel
theorem dX12_span_150 : decode cX12_span 150 = .ok (.iinc 10 1, 3) := by decide +kernel
theorem dX12_span_153 : decode cX12_span 153 = .ok (.goto (-82), 3) := by decide +kernel
theorem dX12_span_156 : decode cX12_span 156 = .ok (.iload 5, 2) := by decide +kernel
theorem dX12_span_158 : decode cX12_span 158 = .ok (.ifCond .ne 8, 3) := by decide +kernel
theorem dX12_span_161 : decode cX12_span 161 = .ok (.iload 7, 2) := by decide +kernel
theorem dX12_span_163 : decode cX12_span 163 = .ok (.goto 16, 3) := by decide +kernel
theorem dX12_span_166 : decode cX12_span 166 = .ok (.iload 5, 2) := by decide +kernel
theorem dX12_span_168 : decode cX12_span 168 = .ok (.iconst 1, 1) := by decide +kernel
theorem dX12_span_169 : decode cX12_span 169 = .ok (.if_icmp .ne 8, 3) := by decide +kernel
theorem dX12_span_172 : decode cX12_span 172 = .ok (.iload 8, 2) := by decide +kernel
theorem dX12_span_174 : decode cX12_span 174 = .ok (.goto 5, 3) := by decide +kernel
theorem dX12_span_177 : decode cX12_span 177 = .ok (.iload 9, 2) := by decide +kernel
theorem dX12_span_179 : decode cX12_span 179 = .ok (.ireturn, 1) := by decide +kernel
theorem dX12_puts_0 : decode cX12_puts 0 = .ok (.iload_n 3, 1) := by decide +kernel
theorem dX12_puts_1 : decode cX12_puts 1 = .ok (.ifCond .ne 10, 3) := by decide +kernel
theorem dX12_puts_4 : decode cX12_puts 4 = .ok (.aload_n 1, 1) := by decide +kernel
theorem dX12_puts_5 : decode cX12_puts 5 = .ok (.aload_n 0, 1) := by decide +kernel
theorem dX12_puts_6 : decode cX12_puts 6 = .ok (.getfield 418, 3) := by decide +kernel
theorem dX12_puts_9 : decode cX12_puts 9 = .ok (.iload_n 2, 1) := by decide +kernel
theorem dX12_puts_10 : decode cX12_puts 10 = .ok (.iastore, 1) := by decide +kernel
theorem dX12_puts_11 : decode cX12_puts 11 = .ok (.aload_n 0, 1) := by decide +kernel
theorem dX12_puts_12 : decode cX12_puts 12 = .ok (.dup, 1) := by decide +kernel
theorem dX12_puts_13 : decode cX12_puts 13 = .ok (.getfield 418, 3) := by decide +kernel
theorem dX12_puts_16 : decode cX12_puts 16 = .ok (.iconst 1, 1) := by decide +kernel
theorem dX12_puts_17 : decode cX12_puts 17 = .ok (.iadd, 1) := by decide +kernel
theorem dX12_puts_18 : decode cX12_puts 18 = .ok (.putfield 418, 3) := by decide +kernel
theorem dX12_puts_21 : decode cX12_puts 21 = .ok (.aload_n 1, 1) := by decide +kernel
theorem dX12_puts_22 : decode cX12_puts 22 = .ok (.aload_n 0, 1) := by decide +kernel
theorem dX12_puts_23 : decode cX12_puts 23 = .ok (.getfield 418, 3) := by decide +kernel
theorem dX12_puts_26 : decode cX12_puts 26 = .ok (.iconst 1, 1) := by decide +kernel
theorem dX12_puts_27 : decode cX12_puts 27 = .ok (.isub, 1) := by decide +kernel
theorem dX12_puts_28 : decode cX12_puts 28 = .ok (.iaload, 1) := by decide +kernel
theorem dX12_puts_29 : decode cX12_puts 29 = .ok (.ireturn, 1) := by decide +kernel
theorem dX12_putsAll_0 : decode cX12_putsAll 0 = .ok (.aload_n 0, 1) := by decide +kernel
theorem dX12_putsAll_1 : decode cX12_putsAll 1 = .ok (.iconst 0, 1) := by decide +kernel
theorem dX12_putsAll_2 : decode cX12_putsAll 2 = .ok (.putfield 418, 3) := by decide +kernel
theorem dX12_putsAll_5 : decode cX12_putsAll 5 = .ok (.aload_n 0, 1) := by decide +kernel
theorem dX12_putsAll_6 : decode cX12_putsAll 6 = .ok (.aload_n 0, 1) := by decide +kernel
theorem dX12_putsAll_7 : decode cX12_putsAll 7 = .ok (.aload_n 1, 1) := by decide +kernel
theorem dX12_putsAll_8 : decode cX12_putsAll 8 = .ok (.aload_n 0, 1) := by decide +kernel
theorem dX12_putsAll_9 : decode cX12_putsAll 9 = .ok (.getfield 210, 3) := by decide +kernel
theorem dX12_putsAll_12 : decode cX12_putsAll 12 = .ok (.iload_n 2, 1) := by decide +kernel
theorem dX12_putsAll_13 : decode cX12_putsAll 13 = .ok (.invokevirtual 421, 3) := by decide +kernel
theorem dX12_putsAll_16 : decode cX12_putsAll 16 = .ok (.putfield 210, 3) := by decide +kernel
theorem dX12_putsAll_19 : decode cX12_putsAll 19 = .ok (.iconst 0, 1) := by decide +kernel
theorem dX12_putsAll_20 : decode cX12_putsAll 20 = .ok (.istore_n 3, 1) := by decide +kernel
theorem dX12_putsAll_21 : decode cX12_putsAll 21 = .ok (.iload_n 3, 1) := by decide +kernel
theorem dX12_putsAll_22 : decode cX12_putsAll 22 = .ok (.bipush 83, 2) := by decide +kernel
theorem dX12_putsAll_24 : decode cX12_putsAll 24 = .ok (.if_icmp .ge 27, 3) := by decide +kernel
theorem dX12_putsAll_27 : decode cX12_putsAll 27 = .ok (.aload_n 0, 1) := by decide +kernel
theorem dX12_putsAll_28 : decode cX12_putsAll 28 = .ok (.getfield 67, 3) := by decide +kernel
theorem dX12_putsAll_31 : decode cX12_putsAll 31 = .ok (.iload_n 3, 1) := by decide +kernel
theorem dX12_putsAll_32 : decode cX12_putsAll 32 = .ok (.aload_n 0, 1) := by decide +kernel
theorem dX12_putsAll_33 : decode cX12_putsAll 33 = .ok (.aload_n 1, 1) := by decide +kernel
theorem dX12_putsAll_34 : decode cX12_putsAll 34 = .ok (.aload_n 0, 1) := by decide +kernel
theorem dX12_putsAll_35 : decode cX12_putsAll 35 = .ok (.getfield 67, 3) := by decide +kernel
theorem dX12_putsAll_38 : decode cX12_putsAll 38 = .ok (.iload_n 3, 1) := by decide +kernel
theorem dX12_putsAll_39 : decode cX12_putsAll 39 = .ok (.iaload, 1) := by decide +kernel
theorem dX12_putsAll_40 : decode cX12_putsAll 40 = .ok (.iload_n 2, 1) := by decide +kernel
theorem dX12_putsAll_41 : decode cX12_putsAll 41 = .ok (.invokevirtual 421, 3) := by decide +kernel
theorem dX12_putsAll_44 : decode cX12_putsAll 44 = .ok (.iastore, 1) := by decide +kernel
theorem dX12_putsAll_45 : decode cX12_putsAll 45 = .ok (.iinc 3 1, 3) := by decide +kernel
theorem dX12_putsAll_48 : decode cX12_putsAll 48 = .ok (.goto (-27), 3) := by decide +kernel
theorem dX12_putsAll_51 : decode cX12_putsAll 51 = .ok (.iconst 0, 1) := by decide +kernel
theorem dX12_putsAll_52 : decode cX12_putsAll 52 = .ok (.istore_n 3, 1) := by decide +kernel
theorem dX12_putsAll_53 : decode cX12_putsAll 53 = .ok (.iload_n 3, 1) := by decide +kernel
theorem dX12_putsAll_54 : decode cX12_putsAll 54 = .ok (.bipush 16, 2) := by decide +kernel
theorem dX12_putsAll_56 : decode cX12_putsAll 56 = .ok (.if_icmp .ge 49, 3) := by decide +kernel
theorem dX12_putsAll_59 : decode cX12_putsAll 59 = .ok (.iconst 0, 1) := by decide +kernel
theorem dX12_putsAll_60 : decode cX12_putsAll 60 = .ok (.istore 4, 2) := by decide +kernel
theorem dX12_putsAll_62 : decode cX12_putsAll 62 = .ok (.iload 4, 2) := by decide +kernel
theorem dX12_putsAll_64 : decode cX12_putsAll 64 = .ok (.bipush 83, 2) := by decide +kernel
theorem dX12_putsAll_66 : decode cX12_putsAll 66 = .ok (.if_icmp .ge 33, 3) := by decide +kernel
theorem dX12_putsAll_69 : decode cX12_putsAll 69 = .ok (.aload_n 0, 1) := by decide +kernel
theorem dX12_putsAll_70 : decode cX12_putsAll 70 = .ok (.getfield 76, 3) := by decide +kernel
theorem dX12_putsAll_73 : decode cX12_putsAll 73 = .ok (.iload_n 3, 1) := by decide +kernel
theorem dX12_putsAll_74 : decode cX12_putsAll 74 = .ok (.aaload, 1) := by decide +kernel
theorem dX12_putsAll_75 : decode cX12_putsAll 75 = .ok (.iload 4, 2) := by decide +kernel
theorem dX12_putsAll_77 : decode cX12_putsAll 77 = .ok (.aload_n 0, 1) := by decide +kernel
theorem dX12_putsAll_78 : decode cX12_putsAll 78 = .ok (.aload_n 1, 1) := by decide +kernel
theorem dX12_putsAll_79 : decode cX12_putsAll 79 = .ok (.aload_n 0, 1) := by decide +kernel
theorem dX12_putsAll_80 : decode cX12_putsAll 80 = .ok (.getfield 76, 3) := by decide +kernel
theorem dX12_putsAll_83 : decode cX12_putsAll 83 = .ok (.iload_n 3, 1) := by decide +kernel
theorem dX12_putsAll_84 : decode cX12_putsAll 84 = .ok (.aaload, 1) := by decide +kernel
theorem dX12_putsAll_85 : decode cX12_putsAll 85 = .ok (.iload 4, 2) := by decide +kernel
theorem dX12_putsAll_87 : decode cX12_putsAll 87 = .ok (.iaload, 1) := by decide +kernel
theorem dX12_putsAll_88 : decode cX12_putsAll 88 = .ok (.iload_n 2, 1) := by decide +kernel
theorem dX12_putsAll_89 : decode cX12_putsAll 89 = .ok (.invokevirtual 421, 3) := by decide +kernel
theorem dX12_putsAll_92 : decode cX12_putsAll 92 = .ok (.iastore, 1) := by decide +kernel
theorem dX12_putsAll_93 : decode cX12_putsAll 93 = .ok (.iinc 4 1, 3) := by decide +kernel
theorem dX12_putsAll_96 : decode cX12_putsAll 96 = .ok (.goto (-34), 3) := by decide +kernel
theorem dX12_putsAll_99 : decode cX12_putsAll 99 = .ok (.iinc 3 1, 3) := by decide +kernel
theorem dX12_putsAll_102 : decode cX12_putsAll 102 = .ok (.goto (-49), 3) := by decide +kernel
theorem dX12_putsAll_105 : decode cX12_putsAll 105 = .ok (.return_, 1) := by decide +kernel
theorem dX12_image_0 : decode cX12_image 0 = .ok (.aload_n 0, 1) := by decide +kernel
theorem dX12_image_1 : decode cX12_image 1 = .ok (.iconst 0, 1) := by decide +kernel
theorem dX12_image_2 : decode cX12_image 2 = .ok (.putfield 104, 3) := by decide +kernel
theorem dX12_image_5 : decode cX12_image 5 = .ok (.aload_n 0, 1) := by decide +kernel
theorem dX12_image_6 : decode cX12_image 6 = .ok (.getfield 216, 3) := by decide +kernel
theorem dX12_image_9 : decode cX12_image 9 = .ok (.iconst 3, 1) := by decide +kernel
theorem dX12_image_10 : decode cX12_image 10 = .ok (.if_icmp .ne 5, 3) := by decide +kernel
theorem dX12_image_13 : decode cX12_image 13 = .ok (.iconst (-1), 1) := by decide +kernel
theorem dX12_image_14 : decode cX12_image 14 = .ok (.ireturn, 1) := by decide +kernel
theorem dX12_image_15 : decode cX12_image 15 = .ok (.aload_n 0, 1) := by decide +kernel
theorem dX12_image_16 : decode cX12_image 16 = .ok (.aload_n 0, 1) := by decide +kernel
theorem dX12_image_17 : decode cX12_image 17 = .ok (.getfield 79, 3) := by decide +kernel
theorem dX12_image_20 : decode cX12_image 20 = .ok (.aload_n 0, 1) := by decide +kernel
theorem dX12_image_21 : decode cX12_image 21 = .ok (.getfield 216, 3) := by decide +kernel
theorem dX12_image_24 : decode cX12_image 24 = .ok (.aaload, 1) := by decide +kernel
theorem dX12_image_25 : decode cX12_image 25 = .ok (.iconst 0, 1) := by decide +kernel
theorem dX12_image_26 : decode cX12_image 26 = .ok (.invokevirtual 425, 3) := by decide +kernel
theorem dX12_image_29 : decode cX12_image 29 = .ok (.aload_n 0, 1) := by decide +kernel
theorem dX12_image_30 : decode cX12_image 30 = .ok (.dup, 1) := by decide +kernel
theorem dX12_image_31 : decode cX12_image 31 = .ok (.getfield 216, 3) := by decide +kernel
theorem dX12_image_34 : decode cX12_image 34 = .ok (.iconst 1, 1) := by decide +kernel
theorem dX12_image_35 : decode cX12_image 35 = .ok (.iadd, 1) := by decide +kernel
theorem dX12_image_36 : decode cX12_image 36 = .ok (.putfield 216, 3) := by decide +kernel
theorem dX12_image_39 : decode cX12_image 39 = .ok (.aload_n 0, 1) := by decide +kernel
theorem dX12_image_40 : decode cX12_image 40 = .ok (.getfield 216, 3) := by decide +kernel
theorem dX12_image_43 : decode cX12_image 43 = .ok (.ireturn, 1) := by decide +kernel
theorem dX12_restore_0 : decode cX12_restore 0 = .ok (.aload_n 0, 1) := by decide +kernel
theorem dX12_restore_1 : decode cX12_restore 1 = .ok (.iconst 0, 1) := by decide +kernel
theorem dX12_restore_2 : decode cX12_restore 2 = .ok (.putfield 104, 3) := by decide +kernel
theorem dX12_restore_5 : decode cX12_restore 5 = .ok (.aload_n 0, 1) := by decide +kernel
theorem dX12_restore_6 : decode cX12_restore 6 = .ok (.getfield 216, 3) := by decide +kernel
theorem dX12_restore_9 : decode cX12_restore 9 = .ok (.ifCond .ne 5, 3) := by decide +kernel
theorem dX12_restore_12 : decode cX12_restore 12 = .ok (.iconst (-1), 1) := by decide +kernel
theorem dX12_restore_13 : decode cX12_restore 13 = .ok (.ireturn, 1) := by decide +kernel
theorem dX12_restore_14 : decode cX12_restore 14 = .ok (.aload_n 0, 1) := by decide +kernel
theorem dX12_restore_15 : decode cX12_restore 15 = .ok (.dup, 1) := by decide +kernel
theorem dX12_restore_16 : decode cX12_restore 16 = .ok (.getfield 216, 3) := by decide +kernel
theorem dX12_restore_19 : decode cX12_restore 19 = .ok (.iconst 1, 1) := by decide +kernel
theorem dX12_restore_20 : decode cX12_restore 20 = .ok (.isub, 1) := by decide +kernel
theorem dX12_restore_21 : decode cX12_restore 21 = .ok (.putfield 216, 3) := by decide +kernel
theorem dX12_restore_24 : decode cX12_restore 24 = .ok (.aload_n 0, 1) := by decide +kernel
theorem dX12_restore_25 : decode cX12_restore 25 = .ok (.aload_n 0, 1) := by decide +kernel
theorem dX12_restore_26 : decode cX12_restore 26 = .ok (.getfield 79, 3) := by decide +kernel
theorem dX12_restore_29 : decode cX12_restore 29 = .ok (.aload_n 0, 1) := by decide +kernel
theorem dX12_restore_30 : decode cX12_restore 30 = .ok (.getfield 216, 3) := by decide +kernel
theorem dX12_restore_33 : decode cX12_restore 33 = .ok (.aaload, 1) := by decide +kernel
theorem dX12_restore_34 : decode cX12_restore 34 = .ok (.iconst 1, 1) := by decide +kernel
theorem dX12_restore_35 : decode cX12_restore 35 = .ok (.invokevirtual 425, 3) := by decide +kernel
theorem dX12_restore_38 : decode cX12_restore 38 = .ok (.aload_n 0, 1) := by decide +kernel
theorem dX12_restore_39 : decode cX12_restore 39 = .ok (.iconst 0, 1) := by decide +kernel
theorem dX12_restore_40 : decode cX12_restore 40 = .ok (.putfield 213, 3) := by decide +kernel
theorem dX12_restore_43 : decode cX12_restore 43 = .ok (.aload_n 0, 1) := by decide +kernel
theorem dX12_restore_44 : decode cX12_restore 44 = .ok (.getfield 216, 3) := by decide +kernel
theorem dX12_restore_47 : decode cX12_restore 47 = .ok (.ireturn, 1) := by decide +kernel
theorem dX12_status_0 : decode cX12_status 0 = .ok (.aload_n 0, 1) := by decide +kernel
theorem dX12_status_1 : decode cX12_status 1 = .ok (.iconst 0, 1) := by decide +kernel
theorem dX12_status_2 : decode cX12_status 2 = .ok (.putfield 104, 3) := by decide +kernel
theorem dX12_status_5 : decode cX12_status 5 = .ok (.iload_n 1, 1) := by decide +kernel
theorem dX12_status_6 : decode cX12_status 6 = .ok (.iconst 0, 1) := by decide +kernel
theorem dX12_status_7 : decode cX12_status 7 = .ok (.iconst 1, 1) := by decide +kernel
theorem dX12_status_8 : decode cX12_status 8 = .ok (.invokestatic 138, 3) := by decide +kernel
theorem dX12_status_11 : decode cX12_status 11 = .ok (.ifCond .eq 12, 3) := by decide +kernel
theorem dX12_status_14 : decode cX12_status 14 = .ok (.aload_n 0, 1) := by decide +kernel
theorem dX12_status_15 : decode cX12_status 15 = .ok (.getfield 17, 3) := by decide +kernel
theorem dX12_status_18 : decode cX12_status 18 = .ok (.iload_n 1, 1) := by decide +kernel
theorem dX12_status_19 : decode cX12_status 19 = .ok (.iaload, 1) := by decide +kernel
theorem dX12_status_20 : decode cX12_status 20 = .ok (.goto 4, 3) := by decide +kernel
theorem dX12_status_23 : decode cX12_status 23 = .ok (.iconst (-1), 1) := by decide +kernel
theorem dX12_status_24 : decode cX12_status 24 = .ok (.ireturn, 1) := by decide +kernel
theorem dX12_count_0 : decode cX12_count 0 = .ok (.aload_n 0, 1) := by decide +kernel
theorem dX12_count_1 : decode cX12_count 1 = .ok (.iconst 0, 1) := by decide +kernel
theorem dX12_count_2 : decode cX12_count 2 = .ok (.putfield 104, 3) := by decide +kernel
theorem dX12_count_5 : decode cX12_count 5 = .ok (.iload_n 1, 1) := by decide +kernel
theorem dX12_count_6 : decode cX12_count 6 = .ok (.ifCond .ne 10, 3) := by decide +kernel
theorem dX12_count_9 : decode cX12_count 9 = .ok (.aload_n 0, 1) := by decide +kernel
theorem dX12_count_10 : decode cX12_count 10 = .ok (.getfield 216, 3) := by decide +kernel
theorem dX12_count_13 : decode cX12_count 13 = .ok (.goto 28, 3) := by decide +kernel
theorem dX12_count_16 : decode cX12_count 16 = .ok (.iload_n 1, 1) := by decide +kernel
theorem dX12_count_17 : decode cX12_count 17 = .ok (.iconst 1, 1) := by decide +kernel
theorem dX12_count_18 : decode cX12_count 18 = .ok (.if_icmp .ne 10, 3) := by decide +kernel
theorem dX12_count_21 : decode cX12_count 21 = .ok (.aload_n 0, 1) := by decide +kernel
theorem dX12_count_22 : decode cX12_count 22 = .ok (.getfield 107, 3) := by decide +kernel
theorem dX12_count_25 : decode cX12_count 25 = .ok (.goto 16, 3) := by decide +kernel
theorem dX12_count_28 : decode cX12_count 28 = .ok (.iload_n 1, 1) := by decide +kernel
theorem dX12_count_29 : decode cX12_count 29 = .ok (.iconst 2, 1) := by decide +kernel
theorem dX12_count_30 : decode cX12_count 30 = .ok (.if_icmp .ne 10, 3) := by decide +kernel
theorem dX12_count_33 : decode cX12_count 33 = .ok (.aload_n 0, 1) := by decide +kernel
theorem dX12_count_34 : decode cX12_count 34 = .ok (.getfield 210, 3) := by decide +kernel
theorem dX12_count_37 : decode cX12_count 37 = .ok (.goto 4, 3) := by decide +kernel
theorem dX12_count_40 : decode cX12_count 40 = .ok (.iconst (-1), 1) := by decide +kernel
theorem dX12_count_41 : decode cX12_count 41 = .ok (.ireturn, 1) := by decide +kernel
theorem dJ6_bitCount_0f7a4_0 : decode cJ6_bitCount_0f7a4 0 = .ok (.iload_n 0, 1) := by decide +kernel
theorem dJ6_bitCount_0f7a4_1 : decode cJ6_bitCount_0f7a4 1 = .ok (.iload_n 0, 1) := by decide +kernel
theorem dJ6_bitCount_0f7a4_2 : decode cJ6_bitCount_0f7a4 2 = .ok (.iconst 1, 1) := by decide +kernel
theorem dJ6_bitCount_0f7a4_3 : decode cJ6_bitCount_0f7a4 3 = .ok (.iushr, 1) := by decide +kernel
theorem dJ6_bitCount_0f7a4_4 : decode cJ6_bitCount_0f7a4 4 = .ok (.ldc_w 265, 3) := by decide +kernel
theorem dJ6_bitCount_0f7a4_7 : decode cJ6_bitCount_0f7a4 7 = .ok (.iand, 1) := by decide +kernel
theorem dJ6_bitCount_0f7a4_8 : decode cJ6_bitCount_0f7a4 8 = .ok (.isub, 1) := by decide +kernel
theorem dJ6_bitCount_0f7a4_9 : decode cJ6_bitCount_0f7a4 9 = .ok (.istore_n 0, 1) := by decide +kernel
theorem dJ6_bitCount_0f7a4_10 : decode cJ6_bitCount_0f7a4 10 = .ok (.iload_n 0, 1) := by decide +kernel
theorem dJ6_bitCount_0f7a4_11 : decode cJ6_bitCount_0f7a4 11 = .ok (.ldc_w 266, 3) := by decide +kernel
theorem dJ6_bitCount_0f7a4_14 : decode cJ6_bitCount_0f7a4 14 = .ok (.iand, 1) := by decide +kernel
theorem dJ6_bitCount_0f7a4_15 : decode cJ6_bitCount_0f7a4 15 = .ok (.iload_n 0, 1) := by decide +kernel
theorem dJ6_bitCount_0f7a4_16 : decode cJ6_bitCount_0f7a4 16 = .ok (.iconst 2, 1) := by decide +kernel
theorem dJ6_bitCount_0f7a4_17 : decode cJ6_bitCount_0f7a4 17 = .ok (.iushr, 1) := by decide +kernel
theorem dJ6_bitCount_0f7a4_18 : decode cJ6_bitCount_0f7a4 18 = .ok (.ldc_w 266, 3) := by decide +kernel
theorem dJ6_bitCount_0f7a4_21 : decode cJ6_bitCount_0f7a4 21 = .ok (.iand, 1) := by decide +kernel
theorem dJ6_bitCount_0f7a4_22 : decode cJ6_bitCount_0f7a4 22 = .ok (.iadd, 1) := by decide +kernel
theorem dJ6_bitCount_0f7a4_23 : decode cJ6_bitCount_0f7a4 23 = .ok (.istore_n 0, 1) := by decide +kernel
theorem dJ6_bitCount_0f7a4_24 : decode cJ6_bitCount_0f7a4 24 = .ok (.iload_n 0, 1) := by decide +kernel
theorem dJ6_bitCount_0f7a4_25 : decode cJ6_bitCount_0f7a4 25 = .ok (.iload_n 0, 1) := by decide +kernel
theorem dJ6_bitCount_0f7a4_26 : decode cJ6_bitCount_0f7a4 26 = .ok (.iconst 4, 1) := by decide +kernel
theorem dJ6_bitCount_0f7a4_27 : decode cJ6_bitCount_0f7a4 27 = .ok (.iushr, 1) := by decide +kernel
theorem dJ6_bitCount_0f7a4_28 : decode cJ6_bitCount_0f7a4 28 = .ok (.iadd, 1) := by decide +kernel
theorem dJ6_bitCount_0f7a4_29 : decode cJ6_bitCount_0f7a4 29 = .ok (.ldc_w 267, 3) := by decide +kernel
theorem dJ6_bitCount_0f7a4_32 : decode cJ6_bitCount_0f7a4 32 = .ok (.iand, 1) := by decide +kernel
theorem dJ6_bitCount_0f7a4_33 : decode cJ6_bitCount_0f7a4 33 = .ok (.istore_n 0, 1) := by decide +kernel
theorem dJ6_bitCount_0f7a4_34 : decode cJ6_bitCount_0f7a4 34 = .ok (.iload_n 0, 1) := by decide +kernel
theorem dJ6_bitCount_0f7a4_35 : decode cJ6_bitCount_0f7a4 35 = .ok (.iload_n 0, 1) := by decide +kernel
theorem dJ6_bitCount_0f7a4_36 : decode cJ6_bitCount_0f7a4 36 = .ok (.bipush 8, 2) := by decide +kernel
theorem dJ6_bitCount_0f7a4_38 : decode cJ6_bitCount_0f7a4 38 = .ok (.iushr, 1) := by decide +kernel
theorem dJ6_bitCount_0f7a4_39 : decode cJ6_bitCount_0f7a4 39 = .ok (.iadd, 1) := by decide +kernel
theorem dJ6_bitCount_0f7a4_40 : decode cJ6_bitCount_0f7a4 40 = .ok (.istore_n 0, 1) := by decide +kernel
theorem dJ6_bitCount_0f7a4_41 : decode cJ6_bitCount_0f7a4 41 = .ok (.iload_n 0, 1) := by decide +kernel
theorem dJ6_bitCount_0f7a4_42 : decode cJ6_bitCount_0f7a4 42 = .ok (.iload_n 0, 1) := by decide +kernel
theorem dJ6_bitCount_0f7a4_43 : decode cJ6_bitCount_0f7a4 43 = .ok (.bipush 16, 2) := by decide +kernel
theorem dJ6_bitCount_0f7a4_45 : decode cJ6_bitCount_0f7a4 45 = .ok (.iushr, 1) := by decide +kernel
theorem dJ6_bitCount_0f7a4_46 : decode cJ6_bitCount_0f7a4 46 = .ok (.iadd, 1) := by decide +kernel
theorem dJ6_bitCount_0f7a4_47 : decode cJ6_bitCount_0f7a4 47 = .ok (.istore_n 0, 1) := by decide +kernel
theorem dJ6_bitCount_0f7a4_48 : decode cJ6_bitCount_0f7a4 48 = .ok (.iload_n 0, 1) := by decide +kernel
theorem dJ6_bitCount_0f7a4_49 : decode cJ6_bitCount_0f7a4 49 = .ok (.bipush 63, 2) := by decide +kernel
theorem dJ6_bitCount_0f7a4_51 : decode cJ6_bitCount_0f7a4 51 = .ok (.iand, 1) := by decide +kernel
theorem dJ6_bitCount_0f7a4_52 : decode cJ6_bitCount_0f7a4 52 = .ok (.ireturn, 1) := by decide +kernel
theorem dJ9_max_7cf53_0 : decode cJ9_max_7cf53 0 = .ok (.iload_n 0, 1) := by decide +kernel
theorem dJ9_max_7cf53_1 : decode cJ9_max_7cf53 1 = .ok (.iload_n 1, 1) := by decide +kernel
theorem dJ9_max_7cf53_2 : decode cJ9_max_7cf53 2 = .ok (.if_icmp .lt 7, 3) := by decide +kernel
theorem dJ9_max_7cf53_5 : decode cJ9_max_7cf53 5 = .ok (.iload_n 0, 1) := by decide +kernel
theorem dJ9_max_7cf53_6 : decode cJ9_max_7cf53 6 = .ok (.goto 4, 3) := by decide +kernel
theorem dJ9_max_7cf53_9 : decode cJ9_max_7cf53 9 = .ok (.iload_n 1, 1) := by decide +kernel
theorem dJ9_max_7cf53_10 : decode cJ9_max_7cf53 10 = .ok (.ireturn, 1) := by decide +kernel
theorem dJ9_min_7cf53_0 : decode cJ9_min_7cf53 0 = .ok (.iload_n 0, 1) := by decide +kernel
theorem dJ9_min_7cf53_1 : decode cJ9_min_7cf53 1 = .ok (.iload_n 1, 1) := by decide +kernel
theorem dJ9_min_7cf53_2 : decode cJ9_min_7cf53 2 = .ok (.if_icmp .gt 7, 3) := by decide +kernel
theorem dJ9_min_7cf53_5 : decode cJ9_min_7cf53 5 = .ok (.iload_n 0, 1) := by decide +kernel
theorem dJ9_min_7cf53_6 : decode cJ9_min_7cf53 6 = .ok (.goto 4, 3) := by decide +kernel
theorem dJ9_min_7cf53_9 : decode cJ9_min_7cf53 9 = .ok (.iload_n 1, 1) := by decide +kernel
theorem dJ9_min_7cf53_10 : decode cJ9_min_7cf53 10 = .ok (.ireturn, 1) := by decide +kernel
theorem dJ0_length_8abf5_0 : decode cJ0_length_8abf5 0 = .ok (.aload_n 0, 1) := by decide +kernel
theorem dJ0_length_8abf5_1 : decode cJ0_length_8abf5 1 = .ok (.getfield 9, 3) := by decide +kernel
theorem dJ0_length_8abf5_4 : decode cJ0_length_8abf5 4 = .ok (.arraylength, 1) := by decide +kernel
theorem dJ0_length_8abf5_5 : decode cJ0_length_8abf5 5 = .ok (.aload_n 0, 1) := by decide +kernel
theorem dJ0_length_8abf5_6 : decode cJ0_length_8abf5 6 = .ok (.invokevirtual 335, 3) := by decide +kernel
theorem dJ0_length_8abf5_9 : decode cJ0_length_8abf5 9 = .ok (.ishr, 1) := by decide +kernel
theorem dJ0_length_8abf5_10 : decode cJ0_length_8abf5 10 = .ok (.ireturn, 1) := by decide +kernel
theorem dJ0_charAt_5068e_0 : decode cJ0_charAt_5068e 0 = .ok (.aload_n 0, 1) := by decide +kernel
theorem dJ0_charAt_5068e_1 : decode cJ0_charAt_5068e 1 = .ok (.invokevirtual 492, 3) := by decide +kernel
theorem dJ0_charAt_5068e_4 : decode cJ0_charAt_5068e 4 = .ok (.ifCond .eq 12, 3) := by decide +kernel
theorem dJ0_charAt_5068e_7 : decode cJ0_charAt_5068e 7 = .ok (.aload_n 0, 1) := by decide +kernel
theorem dJ0_charAt_5068e_8 : decode cJ0_charAt_5068e 8 = .ok (.getfield 9, 3) := by decide +kernel
theorem dJ0_charAt_5068e_11 : decode cJ0_charAt_5068e 11 = .ok (.iload_n 1, 1) := by decide +kernel
theorem dJ0_charAt_5068e_12 : decode cJ0_charAt_5068e 12 = .ok (.invokestatic 495, 3) := by decide +kernel
theorem dJ0_charAt_5068e_15 : decode cJ0_charAt_5068e 15 = .ok (.ireturn, 1) := by decide +kernel
theorem dJ0_charAt_5068e_16 : decode cJ0_charAt_5068e 16 = .ok (.aload_n 0, 1) := by decide +kernel
theorem dJ0_charAt_5068e_17 : decode cJ0_charAt_5068e 17 = .ok (.getfield 9, 3) := by decide +kernel
theorem dJ0_charAt_5068e_20 : decode cJ0_charAt_5068e 20 = .ok (.iload_n 1, 1) := by decide +kernel
theorem dJ0_charAt_5068e_21 : decode cJ0_charAt_5068e 21 = .ok (.invokestatic 498, 3) := by decide +kernel
theorem dJ0_charAt_5068e_24 : decode cJ0_charAt_5068e 24 = .ok (.ireturn, 1) := by decide +kernel
theorem dJ0_coder_7d493_0 : decode cJ0_coder_7d493 0 = .ok (.getstatic 38, 3) := by decide +kernel
theorem dJ0_coder_7d493_3 : decode cJ0_coder_7d493 3 = .ok (.ifCond .eq 10, 3) := by decide +kernel
theorem dJ0_coder_7d493_6 : decode cJ0_coder_7d493 6 = .ok (.aload_n 0, 1) := by decide +kernel
theorem dJ0_coder_7d493_7 : decode cJ0_coder_7d493 7 = .ok (.getfield 15, 3) := by decide +kernel
theorem dJ0_coder_7d493_10 : decode cJ0_coder_7d493 10 = .ok (.goto 4, 3) := by decide +kernel
theorem dJ0_coder_7d493_13 : decode cJ0_coder_7d493 13 = .ok (.iconst 1, 1) := by decide +kernel
theorem dJ0_coder_7d493_14 : decode cJ0_coder_7d493 14 = .ok (.ireturn, 1) := by decide +kernel
theorem dJ0_isLatin1_aae02_0 : decode cJ0_isLatin1_aae02 0 = .ok (.getstatic 38, 3) := by decide +kernel
theorem dJ0_isLatin1_aae02_3 : decode cJ0_isLatin1_aae02 3 = .ok (.ifCond .eq 14, 3) := by decide +kernel
theorem dJ0_isLatin1_aae02_6 : decode cJ0_isLatin1_aae02 6 = .ok (.aload_n 0, 1) := by decide +kernel
theorem dJ0_isLatin1_aae02_7 : decode cJ0_isLatin1_aae02 7 = .ok (.getfield 15, 3) := by decide +kernel
theorem dJ0_isLatin1_aae02_10 : decode cJ0_isLatin1_aae02 10 = .ok (.ifCond .ne 7, 3) := by decide +kernel
theorem dJ0_isLatin1_aae02_13 : decode cJ0_isLatin1_aae02 13 = .ok (.iconst 1, 1) := by decide +kernel
theorem dJ0_isLatin1_aae02_14 : decode cJ0_isLatin1_aae02 14 = .ok (.goto 4, 3) := by decide +kernel
theorem dJ0_isLatin1_aae02_17 : decode cJ0_isLatin1_aae02 17 = .ok (.iconst 0, 1) := by decide +kernel
theorem dJ0_isLatin1_aae02_18 : decode cJ0_isLatin1_aae02 18 = .ok (.ireturn, 1) := by decide +kernel
theorem dJ0_checkIndex_df160_0 : decode cJ0_checkIndex_df160 0 = .ok (.iload_n 0, 1) := by decide +kernel
theorem dJ0_checkIndex_df160_1 : decode cJ0_checkIndex_df160 1 = .ok (.iload_n 1, 1) := by decide +kernel
theorem dJ0_checkIndex_df160_2 : decode cJ0_checkIndex_df160 2 = .ok (.getstatic 1053, 3) := by decide +kernel
theorem dJ0_checkIndex_df160_5 : decode cJ0_checkIndex_df160 5 = .ok (.invokestatic 1059, 3) := by decide +kernel
theorem dJ0_checkIndex_df160_8 : decode cJ0_checkIndex_df160 8 = .ok (.pop, 1) := by decide +kernel
theorem dJ0_checkIndex_df160_9 : decode cJ0_checkIndex_df160 9 = .ok (.return_, 1) := by decide +kernel
theorem dJ1_charAt_3b067_0 : decode cJ1_charAt_3b067 0 = .ok (.iload_n 1, 1) := by decide +kernel
theorem dJ1_charAt_3b067_1 : decode cJ1_charAt_3b067 1 = .ok (.aload_n 0, 1) := by decide +kernel
theorem dJ1_charAt_3b067_2 : decode cJ1_charAt_3b067 2 = .ok (.arraylength, 1) := by decide +kernel
theorem dJ1_charAt_3b067_3 : decode cJ1_charAt_3b067 3 = .ok (.invokestatic 9, 3) := by decide +kernel
theorem dJ1_charAt_3b067_6 : decode cJ1_charAt_3b067 6 = .ok (.aload_n 0, 1) := by decide +kernel
theorem dJ1_charAt_3b067_7 : decode cJ1_charAt_3b067 7 = .ok (.iload_n 1, 1) := by decide +kernel
theorem dJ1_charAt_3b067_8 : decode cJ1_charAt_3b067 8 = .ok (.baload, 1) := by decide +kernel
theorem dJ1_charAt_3b067_9 : decode cJ1_charAt_3b067 9 = .ok (.sipush 255, 3) := by decide +kernel
theorem dJ1_charAt_3b067_12 : decode cJ1_charAt_3b067 12 = .ok (.iand, 1) := by decide +kernel
theorem dJ1_charAt_3b067_13 : decode cJ1_charAt_3b067 13 = .ok (.i2c, 1) := by decide +kernel
theorem dJ1_charAt_3b067_14 : decode cJ1_charAt_3b067 14 = .ok (.ireturn, 1) := by decide +kernel
theorem dJ2_getChar_3b067_0 : decode cJ2_getChar_3b067 0 = .ok (.getstatic 44, 3) := by decide +kernel
theorem dJ2_getChar_3b067_3 : decode cJ2_getChar_3b067 3 = .ok (.ifCond .ne 25, 3) := by decide +kernel
theorem dJ2_getChar_3b067_6 : decode cJ2_getChar_3b067 6 = .ok (.iload_n 1, 1) := by decide +kernel
theorem dJ2_getChar_3b067_7 : decode cJ2_getChar_3b067 7 = .ok (.ifCond .lt 11, 3) := by decide +kernel
theorem dJ2_getChar_3b067_10 : decode cJ2_getChar_3b067 10 = .ok (.iload_n 1, 1) := by decide +kernel
theorem dJ2_getChar_3b067_11 : decode cJ2_getChar_3b067 11 = .ok (.aload_n 0, 1) := by decide +kernel
theorem dJ2_getChar_3b067_12 : decode cJ2_getChar_3b067 12 = .ok (.invokestatic 48, 3) := by decide +kernel
theorem dJ2_getChar_3b067_15 : decode cJ2_getChar_3b067 15 = .ok (.if_icmp .lt 13, 3) := by decide +kernel
theorem dJ2_getChar_3b067_18 : decode cJ2_getChar_3b067 18 = .ok (.new 52, 3) := by decide +kernel
theorem dJ2_getChar_3b067_21 : decode cJ2_getChar_3b067 21 = .ok (.dup, 1) := by decide +kernel
theorem dJ2_getChar_3b067_22 : decode cJ2_getChar_3b067 22 = .ok (.ldc 54, 2) := by decide +kernel
theorem dJ2_getChar_3b067_24 : decode cJ2_getChar_3b067 24 = .ok (.invokespecial 56, 3) := by decide +kernel
theorem dJ2_getChar_3b067_27 : decode cJ2_getChar_3b067 27 = .ok (.athrow, 1) := by decide +kernel
theorem dJ2_getChar_3b067_28 : decode cJ2_getChar_3b067 28 = .ok (.iload_n 1, 1) := by decide +kernel
theorem dJ2_getChar_3b067_29 : decode cJ2_getChar_3b067 29 = .ok (.iconst 1, 1) := by decide +kernel
theorem dJ2_getChar_3b067_30 : decode cJ2_getChar_3b067 30 = .ok (.ishl, 1) := by decide +kernel
theorem dJ2_getChar_3b067_31 : decode cJ2_getChar_3b067 31 = .ok (.istore_n 1, 1) := by decide +kernel
theorem dJ2_getChar_3b067_32 : decode cJ2_getChar_3b067 32 = .ok (.aload_n 0, 1) := by decide +kernel
theorem dJ2_getChar_3b067_33 : decode cJ2_getChar_3b067 33 = .ok (.iload_n 1, 1) := by decide +kernel
theorem dJ2_getChar_3b067_34 : decode cJ2_getChar_3b067 34 = .ok (.iinc 1 1, 3) := by decide +kernel
theorem dJ2_getChar_3b067_37 : decode cJ2_getChar_3b067 37 = .ok (.baload, 1) := by decide +kernel
theorem dJ2_getChar_3b067_38 : decode cJ2_getChar_3b067 38 = .ok (.sipush 255, 3) := by decide +kernel
theorem dJ2_getChar_3b067_41 : decode cJ2_getChar_3b067 41 = .ok (.iand, 1) := by decide +kernel
theorem dJ2_getChar_3b067_42 : decode cJ2_getChar_3b067 42 = .ok (.getstatic 59, 3) := by decide +kernel
theorem dJ2_getChar_3b067_45 : decode cJ2_getChar_3b067 45 = .ok (.ishl, 1) := by decide +kernel
theorem dJ2_getChar_3b067_46 : decode cJ2_getChar_3b067 46 = .ok (.aload_n 0, 1) := by decide +kernel
theorem dJ2_getChar_3b067_47 : decode cJ2_getChar_3b067 47 = .ok (.iload_n 1, 1) := by decide +kernel
theorem dJ2_getChar_3b067_48 : decode cJ2_getChar_3b067 48 = .ok (.baload, 1) := by decide +kernel
theorem dJ2_getChar_3b067_49 : decode cJ2_getChar_3b067 49 = .ok (.sipush 255, 3) := by decide +kernel
theorem dJ2_getChar_3b067_52 : decode cJ2_getChar_3b067 52 = .ok (.iand, 1) := by decide +kernel
theorem dJ2_getChar_3b067_53 : decode cJ2_getChar_3b067 53 = .ok (.getstatic 63, 3) := by decide +kernel
theorem dJ2_getChar_3b067_56 : decode cJ2_getChar_3b067 56 = .ok (.ishl, 1) := by decide +kernel
theorem dJ2_getChar_3b067_57 : decode cJ2_getChar_3b067 57 = .ok (.ior, 1) := by decide +kernel
theorem dJ2_getChar_3b067_58 : decode cJ2_getChar_3b067 58 = .ok (.i2c, 1) := by decide +kernel
theorem dJ2_getChar_3b067_59 : decode cJ2_getChar_3b067 59 = .ok (.ireturn, 1) := by decide +kernel
theorem dJ2_length_9d52b_0 : decode cJ2_length_9d52b 0 = .ok (.aload_n 0, 1) := by decide +kernel
theorem dJ2_length_9d52b_1 : decode cJ2_length_9d52b 1 = .ok (.arraylength, 1) := by decide +kernel
theorem dJ2_length_9d52b_2 : decode cJ2_length_9d52b 2 = .ok (.iconst 1, 1) := by decide +kernel
theorem dJ2_length_9d52b_3 : decode cJ2_length_9d52b 3 = .ok (.ishr, 1) := by decide +kernel
theorem dJ2_length_9d52b_4 : decode cJ2_length_9d52b 4 = .ok (.ireturn, 1) := by decide +kernel
theorem dJ2_charAt_3b067_0 : decode cJ2_charAt_3b067 0 = .ok (.iload_n 1, 1) := by decide +kernel
theorem dJ2_charAt_3b067_1 : decode cJ2_charAt_3b067 1 = .ok (.aload_n 0, 1) := by decide +kernel
theorem dJ2_charAt_3b067_2 : decode cJ2_charAt_3b067 2 = .ok (.invokestatic 67, 3) := by decide +kernel
theorem dJ2_charAt_3b067_5 : decode cJ2_charAt_3b067 5 = .ok (.aload_n 0, 1) := by decide +kernel
theorem dJ2_charAt_3b067_6 : decode cJ2_charAt_3b067 6 = .ok (.iload_n 1, 1) := by decide +kernel
theorem dJ2_charAt_3b067_7 : decode cJ2_charAt_3b067 7 = .ok (.invokestatic 71, 3) := by decide +kernel
theorem dJ2_charAt_3b067_10 : decode cJ2_charAt_3b067 10 = .ok (.ireturn, 1) := by decide +kernel
theorem dJ2_checkIndex_2214a_0 : decode cJ2_checkIndex_2214a 0 = .ok (.iload_n 0, 1) := by decide +kernel
theorem dJ2_checkIndex_2214a_1 : decode cJ2_checkIndex_2214a 1 = .ok (.aload_n 1, 1) := by decide +kernel
theorem dJ2_checkIndex_2214a_2 : decode cJ2_checkIndex_2214a 2 = .ok (.invokestatic 48, 3) := by decide +kernel
theorem dJ2_checkIndex_2214a_5 : decode cJ2_checkIndex_2214a 5 = .ok (.invokestatic 414, 3) := by decide +kernel
theorem dJ2_checkIndex_2214a_8 : decode cJ2_checkIndex_2214a 8 = .ok (.return_, 1) := by decide +kernel
theorem dJ7_fill_53178_0 : decode cJ7_fill_53178 0 = .ok (.iconst 0, 1) := by decide +kernel
theorem dJ7_fill_53178_1 : decode cJ7_fill_53178 1 = .ok (.istore_n 2, 1) := by decide +kernel
theorem dJ7_fill_53178_2 : decode cJ7_fill_53178 2 = .ok (.aload_n 0, 1) := by decide +kernel
theorem dJ7_fill_53178_3 : decode cJ7_fill_53178 3 = .ok (.arraylength, 1) := by decide +kernel
theorem dJ7_fill_53178_4 : decode cJ7_fill_53178 4 = .ok (.istore_n 3, 1) := by decide +kernel
theorem dJ7_fill_53178_5 : decode cJ7_fill_53178 5 = .ok (.iload_n 2, 1) := by decide +kernel
theorem dJ7_fill_53178_6 : decode cJ7_fill_53178 6 = .ok (.iload_n 3, 1) := by decide +kernel
theorem dJ7_fill_53178_7 : decode cJ7_fill_53178 7 = .ok (.if_icmp .ge 13, 3) := by decide +kernel
theorem dJ7_fill_53178_10 : decode cJ7_fill_53178 10 = .ok (.aload_n 0, 1) := by decide +kernel
theorem dJ7_fill_53178_11 : decode cJ7_fill_53178 11 = .ok (.iload_n 2, 1) := by decide +kernel
theorem dJ7_fill_53178_12 : decode cJ7_fill_53178 12 = .ok (.iload_n 1, 1) := by decide +kernel
theorem dJ7_fill_53178_13 : decode cJ7_fill_53178 13 = .ok (.iastore, 1) := by decide +kernel
theorem dJ7_fill_53178_14 : decode cJ7_fill_53178 14 = .ok (.iinc 2 1, 3) := by decide +kernel
theorem dJ7_fill_53178_17 : decode cJ7_fill_53178 17 = .ok (.goto (-12), 3) := by decide +kernel
theorem dJ7_fill_53178_20 : decode cJ7_fill_53178 20 = .ok (.return_, 1) := by decide +kernel
theorem dJ3_checkIndex_8e157_0 : decode cJ3_checkIndex_8e157 0 = .ok (.iload_n 0, 1) := by decide +kernel
theorem dJ3_checkIndex_8e157_1 : decode cJ3_checkIndex_8e157 1 = .ok (.ifCond .lt 8, 3) := by decide +kernel
theorem dJ3_checkIndex_8e157_4 : decode cJ3_checkIndex_8e157 4 = .ok (.iload_n 0, 1) := by decide +kernel
theorem dJ3_checkIndex_8e157_5 : decode cJ3_checkIndex_8e157 5 = .ok (.iload_n 1, 1) := by decide +kernel
theorem dJ3_checkIndex_8e157_6 : decode cJ3_checkIndex_8e157 6 = .ok (.if_icmp .lt 10, 3) := by decide +kernel
theorem dJ3_checkIndex_8e157_9 : decode cJ3_checkIndex_8e157 9 = .ok (.aload_n 2, 1) := by decide +kernel
theorem dJ3_checkIndex_8e157_10 : decode cJ3_checkIndex_8e157 10 = .ok (.iload_n 0, 1) := by decide +kernel
theorem dJ3_checkIndex_8e157_11 : decode cJ3_checkIndex_8e157 11 = .ok (.iload_n 1, 1) := by decide +kernel
theorem dJ3_checkIndex_8e157_12 : decode cJ3_checkIndex_8e157 12 = .ok (.invokestatic 95, 3) := by decide +kernel
theorem dJ3_checkIndex_8e157_15 : decode cJ3_checkIndex_8e157 15 = .ok (.athrow, 1) := by decide +kernel
theorem dJ3_checkIndex_8e157_16 : decode cJ3_checkIndex_8e157 16 = .ok (.iload_n 0, 1) := by decide +kernel
theorem dJ3_checkIndex_8e157_17 : decode cJ3_checkIndex_8e157 17 = .ok (.ireturn, 1) := by decide +kernel
theorem dL_hills_0 : decode cL_hills 0 = .ok (.aload_n 2, 1) := by decide +kernel
theorem dL_hills_1 : decode cL_hills 1 = .ok (.iconst 0, 1) := by decide +kernel
theorem dL_hills_2 : decode cL_hills 2 = .ok (.aload_n 0, 1) := by decide +kernel
theorem dL_hills_3 : decode cL_hills 3 = .ok (.iload_n 1, 1) := by decide +kernel
theorem dL_hills_4 : decode cL_hills 4 = .ok (.invokevirtual 7, 3) := by decide +kernel
theorem dL_hills_7 : decode cL_hills 7 = .ok (.i2l, 1) := by decide +kernel
theorem dL_hills_8 : decode cL_hills 8 = .ok (.lastore, 1) := by decide +kernel
theorem dL_hills_9 : decode cL_hills 9 = .ok (.goto 6, 3) := by decide +kernel
theorem dL_hills_12 : decode cL_hills 12 = .ok (.astore_n 3, 1) := by decide +kernel
theorem dL_hills_13 : decode cL_hills 13 = .ok (.iconst 1, 1) := by decide +kernel
theorem dL_hills_14 : decode cL_hills 14 = .ok (.ireturn, 1) := by decide +kernel
theorem dL_hills_15 : decode cL_hills 15 = .ok (.iconst 0, 1) := by decide +kernel
theorem dL_hills_16 : decode cL_hills 16 = .ok (.ireturn, 1) := by decide +kernel
theorem dL_law_0 : decode cL_law 0 = .ok (.aload_n 2, 1) := by decide +kernel
theorem dL_law_1 : decode cL_law 1 = .ok (.iconst 0, 1) := by decide +kernel
theorem dL_law_2 : decode cL_law 2 = .ok (.aload_n 0, 1) := by decide +kernel
theorem dL_law_3 : decode cL_law 3 = .ok (.iload_n 1, 1) := by decide +kernel
theorem dL_law_4 : decode cL_law 4 = .ok (.invokevirtual 15, 3) := by decide +kernel
theorem dL_law_7 : decode cL_law 7 = .ok (.i2l, 1) := by decide +kernel
theorem dL_law_8 : decode cL_law 8 = .ok (.lastore, 1) := by decide +kernel
theorem dL_law_9 : decode cL_law 9 = .ok (.goto 6, 3) := by decide +kernel
theorem dL_law_12 : decode cL_law 12 = .ok (.astore_n 3, 1) := by decide +kernel
theorem dL_law_13 : decode cL_law 13 = .ok (.iconst 1, 1) := by decide +kernel
theorem dL_law_14 : decode cL_law 14 = .ok (.ireturn, 1) := by decide +kernel
theorem dL_law_15 : decode cL_law 15 = .ok (.iconst 0, 1) := by decide +kernel
theorem dL_law_16 : decode cL_law 16 = .ok (.ireturn, 1) := by decide +kernel
theorem dL_work_0 : decode cL_work 0 = .ok (.aload_n 2, 1) := by decide +kernel
theorem dL_work_1 : decode cL_work 1 = .ok (.iconst 0, 1) := by decide +kernel
theorem dL_work_2 : decode cL_work 2 = .ok (.aload_n 0, 1) := by decide +kernel
theorem dL_work_3 : decode cL_work 3 = .ok (.iload_n 1, 1) := by decide +kernel
theorem dL_work_4 : decode cL_work 4 = .ok (.invokevirtual 18, 3) := by decide +kernel
theorem dL_work_7 : decode cL_work 7 = .ok (.i2l, 1) := by decide +kernel
theorem dL_work_8 : decode cL_work 8 = .ok (.lastore, 1) := by decide +kernel
theorem dL_work_9 : decode cL_work 9 = .ok (.goto 6, 3) := by decide +kernel
theorem dL_work_12 : decode cL_work 12 = .ok (.astore_n 3, 1) := by decide +kernel
theorem dL_work_13 : decode cL_work 13 = .ok (.iconst 1, 1) := by decide +kernel
theorem dL_work_14 : decode cL_work 14 = .ok (.ireturn, 1) := by decide +kernel
theorem dL_work_15 : decode cL_work 15 = .ok (.iconst 0, 1) := by decide +kernel
theorem dL_work_16 : decode cL_work 16 = .ok (.ireturn, 1) := by decide +kernel
theorem dL_book_0 : decode cL_book 0 = .ok (.aload_n 2, 1) := by decide +kernel
theorem dL_book_1 : decode cL_book 1 = .ok (.iconst 0, 1) := by decide +kernel
theorem dL_book_2 : decode cL_book 2 = .ok (.aload_n 0, 1) := by decide +kernel
theorem dL_book_3 : decode cL_book 3 = .ok (.iload_n 1, 1) := by decide +kernel
theorem dL_book_4 : decode cL_book 4 = .ok (.invokevirtual 21, 3) := by decide +kernel
theorem dL_book_7 : decode cL_book 7 = .ok (.i2l, 1) := by decide +kernel
theorem dL_book_8 : decode cL_book 8 = .ok (.lastore, 1) := by decide +kernel
theorem dL_book_9 : decode cL_book 9 = .ok (.goto 6, 3) := by decide +kernel
theorem dL_book_12 : decode cL_book 12 = .ok (.astore_n 3, 1) := by decide +kernel
theorem dL_book_13 : decode cL_book 13 = .ok (.iconst 1, 1) := by decide +kernel
theorem dL_book_14 : decode cL_book 14 = .ok (.ireturn, 1) := by decide +kernel
theorem dL_book_15 : decode cL_book 15 = .ok (.iconst 0, 1) := by decide +kernel
theorem dL_book_16 : decode cL_book 16 = .ok (.ireturn, 1) := by decide +kernel
theorem dL_told_0 : decode cL_told 0 = .ok (.aload_n 2, 1) := by decide +kernel
theorem dL_told_1 : decode cL_told 1 = .ok (.iconst 0, 1) := by decide +kernel
theorem dL_told_2 : decode cL_told 2 = .ok (.aload_n 0, 1) := by decide +kernel
theorem dL_told_3 : decode cL_told 3 = .ok (.iload_n 1, 1) := by decide +kernel
theorem dL_told_4 : decode cL_told 4 = .ok (.invokevirtual 24, 3) := by decide +kernel
theorem dL_told_7 : decode cL_told 7 = .ok (.i2l, 1) := by decide +kernel
theorem dL_told_8 : decode cL_told 8 = .ok (.lastore, 1) := by decide +kernel
theorem dL_told_9 : decode cL_told 9 = .ok (.goto 6, 3) := by decide +kernel
theorem dL_told_12 : decode cL_told 12 = .ok (.astore_n 3, 1) := by decide +kernel
theorem dL_told_13 : decode cL_told 13 = .ok (.iconst 1, 1) := by decide +kernel
theorem dL_told_14 : decode cL_told 14 = .ok (.ireturn, 1) := by decide +kernel
theorem dL_told_15 : decode cL_told 15 = .ok (.iconst 0, 1) := by decide +kernel
theorem dL_told_16 : decode cL_told 16 = .ok (.ireturn, 1) := by decide +kernel
theorem dL_folk_0 : decode cL_folk 0 = .ok (.aload_n 3, 1) := by decide +kernel
theorem dL_folk_1 : decode cL_folk 1 = .ok (.iconst 0, 1) := by decide +kernel
theorem dL_folk_2 : decode cL_folk 2 = .ok (.aload_n 0, 1) := by decide +kernel
theorem dL_folk_3 : decode cL_folk 3 = .ok (.iload_n 1, 1) := by decide +kernel
theorem dL_folk_4 : decode cL_folk 4 = .ok (.iload_n 2, 1) := by decide +kernel
theorem dL_folk_5 : decode cL_folk 5 = .ok (.invokevirtual 27, 3) := by decide +kernel
theorem dL_folk_8 : decode cL_folk 8 = .ok (.i2l, 1) := by decide +kernel
theorem dL_folk_9 : decode cL_folk 9 = .ok (.lastore, 1) := by decide +kernel
theorem dL_folk_10 : decode cL_folk 10 = .ok (.goto 11, 3) := by decide +kernel
theorem dL_folk_13 : decode cL_folk 13 = .ok (.astore 4, 2) := by decide +kernel
theorem dL_folk_15 : decode cL_folk 15 = .ok (.iconst 1, 1) := by decide +kernel
theorem dL_folk_16 : decode cL_folk 16 = .ok (.ireturn, 1) := by decide +kernel
theorem dL_folk_17 : decode cL_folk 17 = .ok (.astore 4, 2) := by decide +kernel
theorem dL_folk_19 : decode cL_folk 19 = .ok (.iconst 2, 1) := by decide +kernel
theorem dL_folk_20 : decode cL_folk 20 = .ok (.ireturn, 1) := by decide +kernel
theorem dL_folk_21 : decode cL_folk 21 = .ok (.iconst 0, 1) := by decide +kernel
theorem dL_folk_22 : decode cL_folk 22 = .ok (.ireturn, 1) := by decide +kernel
theorem dL_beast_0 : decode cL_beast 0 = .ok (.aload_n 3, 1) := by decide +kernel
theorem dL_beast_1 : decode cL_beast 1 = .ok (.iconst 0, 1) := by decide +kernel
theorem dL_beast_2 : decode cL_beast 2 = .ok (.aload_n 0, 1) := by decide +kernel
theorem dL_beast_3 : decode cL_beast 3 = .ok (.iload_n 1, 1) := by decide +kernel
theorem dL_beast_4 : decode cL_beast 4 = .ok (.iload_n 2, 1) := by decide +kernel
theorem dL_beast_5 : decode cL_beast 5 = .ok (.invokevirtual 33, 3) := by decide +kernel
theorem dL_beast_8 : decode cL_beast 8 = .ok (.i2l, 1) := by decide +kernel
theorem dL_beast_9 : decode cL_beast 9 = .ok (.lastore, 1) := by decide +kernel
theorem dL_beast_10 : decode cL_beast 10 = .ok (.goto 11, 3) := by decide +kernel
theorem dL_beast_13 : decode cL_beast 13 = .ok (.astore 4, 2) := by decide +kernel
theorem dL_beast_15 : decode cL_beast 15 = .ok (.iconst 1, 1) := by decide +kernel
theorem dL_beast_16 : decode cL_beast 16 = .ok (.ireturn, 1) := by decide +kernel
theorem dL_beast_17 : decode cL_beast 17 = .ok (.astore 4, 2) := by decide +kernel
theorem dL_beast_19 : decode cL_beast 19 = .ok (.iconst 2, 1) := by decide +kernel
theorem dL_beast_20 : decode cL_beast 20 = .ok (.ireturn, 1) := by decide +kernel
theorem dL_beast_21 : decode cL_beast 21 = .ok (.iconst 0, 1) := by decide +kernel
theorem dL_beast_22 : decode cL_beast 22 = .ok (.ireturn, 1) := by decide +kernel
theorem dL_fair_0 : decode cL_fair 0 = .ok (.aload_n 3, 1) := by decide +kernel
theorem dL_fair_1 : decode cL_fair 1 = .ok (.iconst 0, 1) := by decide +kernel
theorem dL_fair_2 : decode cL_fair 2 = .ok (.aload_n 0, 1) := by decide +kernel
theorem dL_fair_3 : decode cL_fair 3 = .ok (.iload_n 1, 1) := by decide +kernel
theorem dL_fair_4 : decode cL_fair 4 = .ok (.iload_n 2, 1) := by decide +kernel
theorem dL_fair_5 : decode cL_fair 5 = .ok (.invokevirtual 36, 3) := by decide +kernel
theorem dL_fair_8 : decode cL_fair 8 = .ok (.i2l, 1) := by decide +kernel
theorem dL_fair_9 : decode cL_fair 9 = .ok (.lastore, 1) := by decide +kernel
theorem dL_fair_10 : decode cL_fair 10 = .ok (.goto 11, 3) := by decide +kernel
theorem dL_fair_13 : decode cL_fair 13 = .ok (.astore 4, 2) := by decide +kernel
theorem dL_fair_15 : decode cL_fair 15 = .ok (.iconst 1, 1) := by decide +kernel
theorem dL_fair_16 : decode cL_fair 16 = .ok (.ireturn, 1) := by decide +kernel
theorem dL_fair_17 : decode cL_fair 17 = .ok (.astore 4, 2) := by decide +kernel
theorem dL_fair_19 : decode cL_fair 19 = .ok (.iconst 2, 1) := by decide +kernel
theorem dL_fair_20 : decode cL_fair 20 = .ok (.ireturn, 1) := by decide +kernel
theorem dL_fair_21 : decode cL_fair 21 = .ok (.iconst 0, 1) := by decide +kernel
theorem dL_fair_22 : decode cL_fair 22 = .ok (.ireturn, 1) := by decide +kernel
theorem dL_cool_0 : decode cL_cool 0 = .ok (.aload_n 3, 1) := by decide +kernel
theorem dL_cool_1 : decode cL_cool 1 = .ok (.iconst 0, 1) := by decide +kernel
theorem dL_cool_2 : decode cL_cool 2 = .ok (.aload_n 0, 1) := by decide +kernel
theorem dL_cool_3 : decode cL_cool 3 = .ok (.iload_n 1, 1) := by decide +kernel
theorem dL_cool_4 : decode cL_cool 4 = .ok (.iload_n 2, 1) := by decide +kernel
theorem dL_cool_5 : decode cL_cool 5 = .ok (.invokevirtual 39, 3) := by decide +kernel
theorem dL_cool_8 : decode cL_cool 8 = .ok (.i2l, 1) := by decide +kernel
theorem dL_cool_9 : decode cL_cool 9 = .ok (.lastore, 1) := by decide +kernel
theorem dL_cool_10 : decode cL_cool 10 = .ok (.goto 7, 3) := by decide +kernel
theorem dL_cool_13 : decode cL_cool 13 = .ok (.astore 4, 2) := by decide +kernel
theorem dL_cool_15 : decode cL_cool 15 = .ok (.iconst 1, 1) := by decide +kernel
theorem dL_cool_16 : decode cL_cool 16 = .ok (.ireturn, 1) := by decide +kernel
theorem dL_cool_17 : decode cL_cool 17 = .ok (.iconst 0, 1) := by decide +kernel
theorem dL_cool_18 : decode cL_cool 18 = .ok (.ireturn, 1) := by decide +kernel
theorem dL_would_0 : decode cL_would 0 = .ok (.aload 9, 2) := by decide +kernel
theorem dL_would_2 : decode cL_would 2 = .ok (.iconst 0, 1) := by decide +kernel
theorem dL_would_3 : decode cL_would 3 = .ok (.aload_n 0, 1) := by decide +kernel
theorem dL_would_4 : decode cL_would 4 = .ok (.iload_n 1, 1) := by decide +kernel
theorem dL_would_5 : decode cL_would 5 = .ok (.iload_n 2, 1) := by decide +kernel
theorem dL_would_6 : decode cL_would 6 = .ok (.iload_n 3, 1) := by decide +kernel
theorem dL_would_7 : decode cL_would 7 = .ok (.iload 4, 2) := by decide +kernel
theorem dL_would_9 : decode cL_would 9 = .ok (.iload 5, 2) := by decide +kernel
theorem dL_would_11 : decode cL_would 11 = .ok (.iload 6, 2) := by decide +kernel
theorem dL_would_13 : decode cL_would 13 = .ok (.iload 7, 2) := by decide +kernel
theorem dL_would_15 : decode cL_would 15 = .ok (.iload 8, 2) := by decide +kernel
theorem dL_would_17 : decode cL_would 17 = .ok (.invokevirtual 42, 3) := by decide +kernel
theorem dL_would_20 : decode cL_would 20 = .ok (.i2l, 1) := by decide +kernel
theorem dL_would_21 : decode cL_would 21 = .ok (.lastore, 1) := by decide +kernel
theorem dL_would_22 : decode cL_would 22 = .ok (.goto 7, 3) := by decide +kernel
theorem dL_would_25 : decode cL_would 25 = .ok (.astore 10, 2) := by decide +kernel
theorem dL_would_27 : decode cL_would 27 = .ok (.iconst 1, 1) := by decide +kernel
theorem dL_would_28 : decode cL_would 28 = .ok (.ireturn, 1) := by decide +kernel
theorem dL_would_29 : decode cL_would 29 = .ok (.iconst 0, 1) := by decide +kernel
theorem dL_would_30 : decode cL_would 30 = .ok (.ireturn, 1) := by decide +kernel
theorem dL_ahead_0 : decode cL_ahead 0 = .ok (.aload_n 3, 1) := by decide +kernel
theorem dL_ahead_1 : decode cL_ahead 1 = .ok (.iconst 0, 1) := by decide +kernel
theorem dL_ahead_2 : decode cL_ahead 2 = .ok (.aload_n 0, 1) := by decide +kernel
theorem dL_ahead_3 : decode cL_ahead 3 = .ok (.iload_n 1, 1) := by decide +kernel
theorem dL_ahead_4 : decode cL_ahead 4 = .ok (.iload_n 2, 1) := by decide +kernel
theorem dL_ahead_5 : decode cL_ahead 5 = .ok (.invokevirtual 46, 3) := by decide +kernel
theorem dL_ahead_8 : decode cL_ahead 8 = .ok (.i2l, 1) := by decide +kernel
theorem dL_ahead_9 : decode cL_ahead 9 = .ok (.lastore, 1) := by decide +kernel
theorem dL_ahead_10 : decode cL_ahead 10 = .ok (.goto 7, 3) := by decide +kernel
theorem dL_ahead_13 : decode cL_ahead 13 = .ok (.astore 4, 2) := by decide +kernel
theorem dL_ahead_15 : decode cL_ahead 15 = .ok (.iconst 1, 1) := by decide +kernel
theorem dL_ahead_16 : decode cL_ahead 16 = .ok (.ireturn, 1) := by decide +kernel
theorem dL_ahead_17 : decode cL_ahead 17 = .ok (.iconst 0, 1) := by decide +kernel
theorem dL_ahead_18 : decode cL_ahead 18 = .ok (.ireturn, 1) := by decide +kernel
theorem dL_bare_0 : decode cL_bare 0 = .ok (.aload_n 2, 1) := by decide +kernel
theorem dL_bare_1 : decode cL_bare 1 = .ok (.iconst 0, 1) := by decide +kernel
theorem dL_bare_2 : decode cL_bare 2 = .ok (.aload_n 0, 1) := by decide +kernel
theorem dL_bare_3 : decode cL_bare 3 = .ok (.iload_n 1, 1) := by decide +kernel
theorem dL_bare_4 : decode cL_bare 4 = .ok (.invokevirtual 49, 3) := by decide +kernel
theorem dL_bare_7 : decode cL_bare 7 = .ok (.i2l, 1) := by decide +kernel
theorem dL_bare_8 : decode cL_bare 8 = .ok (.lastore, 1) := by decide +kernel
theorem dL_bare_9 : decode cL_bare 9 = .ok (.goto 6, 3) := by decide +kernel
theorem dL_bare_12 : decode cL_bare 12 = .ok (.astore_n 3, 1) := by decide +kernel
theorem dL_bare_13 : decode cL_bare 13 = .ok (.iconst 1, 1) := by decide +kernel
theorem dL_bare_14 : decode cL_bare 14 = .ok (.ireturn, 1) := by decide +kernel
theorem dL_bare_15 : decode cL_bare 15 = .ok (.iconst 0, 1) := by decide +kernel
theorem dL_bare_16 : decode cL_bare 16 = .ok (.ireturn, 1) := by decide +kernel
theorem dL_herd_0 : decode cL_herd 0 = .ok (.aload_n 3, 1) := by decide +kernel
theorem dL_herd_1 : decode cL_herd 1 = .ok (.iconst 0, 1) := by decide +kernel
theorem dL_herd_2 : decode cL_herd 2 = .ok (.aload_n 0, 1) := by decide +kernel
theorem dL_herd_3 : decode cL_herd 3 = .ok (.iload_n 1, 1) := by decide +kernel
theorem dL_herd_4 : decode cL_herd 4 = .ok (.iload_n 2, 1) := by decide +kernel
theorem dL_herd_5 : decode cL_herd 5 = .ok (.invokevirtual 52, 3) := by decide +kernel
theorem dL_herd_8 : decode cL_herd 8 = .ok (.i2l, 1) := by decide +kernel
theorem dL_herd_9 : decode cL_herd 9 = .ok (.lastore, 1) := by decide +kernel
theorem dL_herd_10 : decode cL_herd 10 = .ok (.goto 11, 3) := by decide +kernel
theorem dL_herd_13 : decode cL_herd 13 = .ok (.astore 4, 2) := by decide +kernel
theorem dL_herd_15 : decode cL_herd 15 = .ok (.iconst 1, 1) := by decide +kernel
theorem dL_herd_16 : decode cL_herd 16 = .ok (.ireturn, 1) := by decide +kernel
theorem dL_herd_17 : decode cL_herd 17 = .ok (.astore 4, 2) := by decide +kernel
theorem dL_herd_19 : decode cL_herd 19 = .ok (.iconst 2, 1) := by decide +kernel
theorem dL_herd_20 : decode cL_herd 20 = .ok (.ireturn, 1) := by decide +kernel
theorem dL_herd_21 : decode cL_herd 21 = .ok (.iconst 0, 1) := by decide +kernel
theorem dL_herd_22 : decode cL_herd 22 = .ok (.ireturn, 1) := by decide +kernel
theorem dL_paid_0 : decode cL_paid 0 = .ok (.aload_n 3, 1) := by decide +kernel
theorem dL_paid_1 : decode cL_paid 1 = .ok (.iconst 0, 1) := by decide +kernel
theorem dL_paid_2 : decode cL_paid 2 = .ok (.aload_n 0, 1) := by decide +kernel
theorem dL_paid_3 : decode cL_paid 3 = .ok (.iload_n 1, 1) := by decide +kernel
theorem dL_paid_4 : decode cL_paid 4 = .ok (.iload_n 2, 1) := by decide +kernel
theorem dL_paid_5 : decode cL_paid 5 = .ok (.invokevirtual 55, 3) := by decide +kernel
theorem dL_paid_8 : decode cL_paid 8 = .ok (.i2l, 1) := by decide +kernel
theorem dL_paid_9 : decode cL_paid 9 = .ok (.lastore, 1) := by decide +kernel
theorem dL_paid_10 : decode cL_paid 10 = .ok (.goto 11, 3) := by decide +kernel
theorem dL_paid_13 : decode cL_paid 13 = .ok (.astore 4, 2) := by decide +kernel
theorem dL_paid_15 : decode cL_paid 15 = .ok (.iconst 1, 1) := by decide +kernel
theorem dL_paid_16 : decode cL_paid 16 = .ok (.ireturn, 1) := by decide +kernel
theorem dL_paid_17 : decode cL_paid 17 = .ok (.astore 4, 2) := by decide +kernel
theorem dL_paid_19 : decode cL_paid 19 = .ok (.iconst 2, 1) := by decide +kernel
theorem dL_paid_20 : decode cL_paid 20 = .ok (.ireturn, 1) := by decide +kernel
theorem dL_paid_21 : decode cL_paid 21 = .ok (.iconst 0, 1) := by decide +kernel
theorem dL_paid_22 : decode cL_paid 22 = .ok (.ireturn, 1) := by decide +kernel
theorem dL_unseen_0 : decode cL_unseen 0 = .ok (.aload_n 3, 1) := by decide +kernel
theorem dL_unseen_1 : decode cL_unseen 1 = .ok (.iconst 0, 1) := by decide +kernel
theorem dL_unseen_2 : decode cL_unseen 2 = .ok (.aload_n 0, 1) := by decide +kernel
theorem dL_unseen_3 : decode cL_unseen 3 = .ok (.iload_n 1, 1) := by decide +kernel
theorem dL_unseen_4 : decode cL_unseen 4 = .ok (.iload_n 2, 1) := by decide +kernel
theorem dL_unseen_5 : decode cL_unseen 5 = .ok (.invokevirtual 58, 3) := by decide +kernel
theorem dL_unseen_8 : decode cL_unseen 8 = .ok (.i2l, 1) := by decide +kernel
theorem dL_unseen_9 : decode cL_unseen 9 = .ok (.lastore, 1) := by decide +kernel
theorem dL_unseen_10 : decode cL_unseen 10 = .ok (.goto 11, 3) := by decide +kernel
theorem dL_unseen_13 : decode cL_unseen 13 = .ok (.astore 4, 2) := by decide +kernel
theorem dL_unseen_15 : decode cL_unseen 15 = .ok (.iconst 1, 1) := by decide +kernel
theorem dL_unseen_16 : decode cL_unseen 16 = .ok (.ireturn, 1) := by decide +kernel
theorem dL_unseen_17 : decode cL_unseen 17 = .ok (.astore 4, 2) := by decide +kernel
theorem dL_unseen_19 : decode cL_unseen 19 = .ok (.iconst 2, 1) := by decide +kernel
theorem dL_unseen_20 : decode cL_unseen 20 = .ok (.ireturn, 1) := by decide +kernel
theorem dL_unseen_21 : decode cL_unseen 21 = .ok (.iconst 0, 1) := by decide +kernel
theorem dL_unseen_22 : decode cL_unseen 22 = .ok (.ireturn, 1) := by decide +kernel
theorem dL_look_0 : decode cL_look 0 = .ok (.aload_n 3, 1) := by decide +kernel
theorem dL_look_1 : decode cL_look 1 = .ok (.iconst 0, 1) := by decide +kernel
theorem dL_look_2 : decode cL_look 2 = .ok (.aload_n 0, 1) := by decide +kernel
theorem dL_look_3 : decode cL_look 3 = .ok (.iload_n 1, 1) := by decide +kernel
theorem dL_look_4 : decode cL_look 4 = .ok (.iload_n 2, 1) := by decide +kernel
theorem dL_look_5 : decode cL_look 5 = .ok (.invokevirtual 61, 3) := by decide +kernel
theorem dL_look_8 : decode cL_look 8 = .ok (.i2l, 1) := by decide +kernel
theorem dL_look_9 : decode cL_look 9 = .ok (.lastore, 1) := by decide +kernel
theorem dL_look_10 : decode cL_look 10 = .ok (.goto 11, 3) := by decide +kernel
theorem dL_look_13 : decode cL_look 13 = .ok (.astore 4, 2) := by decide +kernel
theorem dL_look_15 : decode cL_look 15 = .ok (.iconst 1, 1) := by decide +kernel
theorem dL_look_16 : decode cL_look 16 = .ok (.ireturn, 1) := by decide +kernel
theorem dL_look_17 : decode cL_look 17 = .ok (.astore 4, 2) := by decide +kernel
theorem dL_look_19 : decode cL_look 19 = .ok (.iconst 2, 1) := by decide +kernel
theorem dL_look_20 : decode cL_look 20 = .ok (.ireturn, 1) := by decide +kernel
theorem dL_look_21 : decode cL_look 21 = .ok (.iconst 0, 1) := by decide +kernel
theorem dL_look_22 : decode cL_look 22 = .ok (.ireturn, 1) := by decide +kernel
theorem dL_way_0 : decode cL_way 0 = .ok (.aload_n 3, 1) := by decide +kernel
theorem dL_way_1 : decode cL_way 1 = .ok (.iconst 0, 1) := by decide +kernel
theorem dL_way_2 : decode cL_way 2 = .ok (.aload_n 0, 1) := by decide +kernel
theorem dL_way_3 : decode cL_way 3 = .ok (.iload_n 1, 1) := by decide +kernel
theorem dL_way_4 : decode cL_way 4 = .ok (.iload_n 2, 1) := by decide +kernel
theorem dL_way_5 : decode cL_way 5 = .ok (.invokevirtual 64, 3) := by decide +kernel
theorem dL_way_8 : decode cL_way 8 = .ok (.i2l, 1) := by decide +kernel
theorem dL_way_9 : decode cL_way 9 = .ok (.lastore, 1) := by decide +kernel
theorem dL_way_10 : decode cL_way 10 = .ok (.goto 7, 3) := by decide +kernel
theorem dL_way_13 : decode cL_way 13 = .ok (.astore 4, 2) := by decide +kernel
theorem dL_way_15 : decode cL_way 15 = .ok (.iconst 1, 1) := by decide +kernel
theorem dL_way_16 : decode cL_way 16 = .ok (.ireturn, 1) := by decide +kernel
theorem dL_way_17 : decode cL_way 17 = .ok (.iconst 0, 1) := by decide +kernel
theorem dL_way_18 : decode cL_way 18 = .ok (.ireturn, 1) := by decide +kernel
theorem dL_price_0 : decode cL_price 0 = .ok (.aload_n 3, 1) := by decide +kernel
theorem dL_price_1 : decode cL_price 1 = .ok (.iconst 0, 1) := by decide +kernel
theorem dL_price_2 : decode cL_price 2 = .ok (.aload_n 0, 1) := by decide +kernel
theorem dL_price_3 : decode cL_price 3 = .ok (.iload_n 1, 1) := by decide +kernel
theorem dL_price_4 : decode cL_price 4 = .ok (.iload_n 2, 1) := by decide +kernel
theorem dL_price_5 : decode cL_price 5 = .ok (.invokevirtual 67, 3) := by decide +kernel
theorem dL_price_8 : decode cL_price 8 = .ok (.i2l, 1) := by decide +kernel
theorem dL_price_9 : decode cL_price 9 = .ok (.lastore, 1) := by decide +kernel
theorem dL_price_10 : decode cL_price 10 = .ok (.goto 7, 3) := by decide +kernel
theorem dL_price_13 : decode cL_price 13 = .ok (.astore 4, 2) := by decide +kernel
theorem dL_price_15 : decode cL_price 15 = .ok (.iconst 1, 1) := by decide +kernel
theorem dL_price_16 : decode cL_price 16 = .ok (.ireturn, 1) := by decide +kernel
theorem dL_price_17 : decode cL_price 17 = .ok (.iconst 0, 1) := by decide +kernel
theorem dL_price_18 : decode cL_price 18 = .ok (.ireturn, 1) := by decide +kernel
theorem dL_owing_0 : decode cL_owing 0 = .ok (.aload 4, 2) := by decide +kernel
theorem dL_owing_2 : decode cL_owing 2 = .ok (.iconst 0, 1) := by decide +kernel
theorem dL_owing_3 : decode cL_owing 3 = .ok (.aload_n 0, 1) := by decide +kernel
theorem dL_owing_4 : decode cL_owing 4 = .ok (.iload_n 1, 1) := by decide +kernel
theorem dL_owing_5 : decode cL_owing 5 = .ok (.iload_n 2, 1) := by decide +kernel
theorem dL_owing_6 : decode cL_owing 6 = .ok (.iload_n 3, 1) := by decide +kernel
theorem dL_owing_7 : decode cL_owing 7 = .ok (.invokevirtual 70, 3) := by decide +kernel
theorem dL_owing_10 : decode cL_owing 10 = .ok (.i2l, 1) := by decide +kernel
theorem dL_owing_11 : decode cL_owing 11 = .ok (.lastore, 1) := by decide +kernel
theorem dL_owing_12 : decode cL_owing 12 = .ok (.goto 7, 3) := by decide +kernel
theorem dL_owing_15 : decode cL_owing 15 = .ok (.astore 5, 2) := by decide +kernel
theorem dL_owing_17 : decode cL_owing 17 = .ok (.iconst 1, 1) := by decide +kernel
theorem dL_owing_18 : decode cL_owing 18 = .ok (.ireturn, 1) := by decide +kernel
theorem dL_owing_19 : decode cL_owing 19 = .ok (.iconst 0, 1) := by decide +kernel
theorem dL_owing_20 : decode cL_owing 20 = .ok (.ireturn, 1) := by decide +kernel
theorem dL_home_0 : decode cL_home 0 = .ok (.aload 5, 2) := by decide +kernel
theorem dL_home_2 : decode cL_home 2 = .ok (.iconst 0, 1) := by decide +kernel
theorem dL_home_3 : decode cL_home 3 = .ok (.aload_n 0, 1) := by decide +kernel
theorem dL_home_4 : decode cL_home 4 = .ok (.iload_n 1, 1) := by decide +kernel
theorem dL_home_5 : decode cL_home 5 = .ok (.iload_n 2, 1) := by decide +kernel
theorem dL_home_6 : decode cL_home 6 = .ok (.iload_n 3, 1) := by decide +kernel
theorem dL_home_7 : decode cL_home 7 = .ok (.iload 4, 2) := by decide +kernel
theorem dL_home_9 : decode cL_home 9 = .ok (.invokevirtual 74, 3) := by decide +kernel
theorem dL_home_12 : decode cL_home 12 = .ok (.lastore, 1) := by decide +kernel
theorem dL_home_13 : decode cL_home 13 = .ok (.goto 7, 3) := by decide +kernel
theorem dL_home_16 : decode cL_home 16 = .ok (.astore 6, 2) := by decide +kernel
theorem dL_home_18 : decode cL_home 18 = .ok (.iconst 1, 1) := by decide +kernel
theorem dL_home_19 : decode cL_home 19 = .ok (.ireturn, 1) := by decide +kernel
theorem dL_home_20 : decode cL_home 20 = .ok (.iconst 0, 1) := by decide +kernel
theorem dL_home_21 : decode cL_home 21 = .ok (.ireturn, 1) := by decide +kernel
theorem dL_share_0 : decode cL_share 0 = .ok (.aload 4, 2) := by decide +kernel
theorem dL_share_2 : decode cL_share 2 = .ok (.iconst 0, 1) := by decide +kernel
theorem dL_share_3 : decode cL_share 3 = .ok (.aload_n 0, 1) := by decide +kernel
theorem dL_share_4 : decode cL_share 4 = .ok (.iload_n 1, 1) := by decide +kernel
theorem dL_share_5 : decode cL_share 5 = .ok (.iload_n 2, 1) := by decide +kernel
theorem dL_share_6 : decode cL_share 6 = .ok (.iload_n 3, 1) := by decide +kernel
theorem dL_share_7 : decode cL_share 7 = .ok (.invokevirtual 78, 3) := by decide +kernel
theorem dL_share_10 : decode cL_share 10 = .ok (.i2l, 1) := by decide +kernel
theorem dL_share_11 : decode cL_share 11 = .ok (.lastore, 1) := by decide +kernel
theorem dL_share_12 : decode cL_share 12 = .ok (.goto 11, 3) := by decide +kernel
theorem dL_share_15 : decode cL_share 15 = .ok (.astore 5, 2) := by decide +kernel
theorem dL_share_17 : decode cL_share 17 = .ok (.iconst 1, 1) := by decide +kernel
theorem dL_share_18 : decode cL_share 18 = .ok (.ireturn, 1) := by decide +kernel
theorem dL_share_19 : decode cL_share 19 = .ok (.astore 5, 2) := by decide +kernel
theorem dL_share_21 : decode cL_share 21 = .ok (.iconst 2, 1) := by decide +kernel
theorem dL_share_22 : decode cL_share 22 = .ok (.ireturn, 1) := by decide +kernel
theorem dL_share_23 : decode cL_share 23 = .ok (.iconst 0, 1) := by decide +kernel
theorem dL_share_24 : decode cL_share 24 = .ok (.ireturn, 1) := by decide +kernel
theorem dL_heaviest_0 : decode cL_heaviest 0 = .ok (.aload_n 2, 1) := by decide +kernel
theorem dL_heaviest_1 : decode cL_heaviest 1 = .ok (.iconst 0, 1) := by decide +kernel
theorem dL_heaviest_2 : decode cL_heaviest 2 = .ok (.aload_n 0, 1) := by decide +kernel
theorem dL_heaviest_3 : decode cL_heaviest 3 = .ok (.iload_n 1, 1) := by decide +kernel
theorem dL_heaviest_4 : decode cL_heaviest 4 = .ok (.invokevirtual 81, 3) := by decide +kernel
theorem dL_heaviest_7 : decode cL_heaviest 7 = .ok (.i2l, 1) := by decide +kernel
theorem dL_heaviest_8 : decode cL_heaviest 8 = .ok (.lastore, 1) := by decide +kernel
theorem dL_heaviest_9 : decode cL_heaviest 9 = .ok (.goto 6, 3) := by decide +kernel
theorem dL_heaviest_12 : decode cL_heaviest 12 = .ok (.astore_n 3, 1) := by decide +kernel
theorem dL_heaviest_13 : decode cL_heaviest 13 = .ok (.iconst 1, 1) := by decide +kernel
theorem dL_heaviest_14 : decode cL_heaviest 14 = .ok (.ireturn, 1) := by decide +kernel
theorem dL_heaviest_15 : decode cL_heaviest 15 = .ok (.iconst 0, 1) := by decide +kernel
theorem dL_heaviest_16 : decode cL_heaviest 16 = .ok (.ireturn, 1) := by decide +kernel
theorem dL_oldest_0 : decode cL_oldest 0 = .ok (.aload_n 2, 1) := by decide +kernel
theorem dL_oldest_1 : decode cL_oldest 1 = .ok (.iconst 0, 1) := by decide +kernel
theorem dL_oldest_2 : decode cL_oldest 2 = .ok (.aload_n 0, 1) := by decide +kernel
theorem dL_oldest_3 : decode cL_oldest 3 = .ok (.iload_n 1, 1) := by decide +kernel
theorem dL_oldest_4 : decode cL_oldest 4 = .ok (.invokevirtual 84, 3) := by decide +kernel
theorem dL_oldest_7 : decode cL_oldest 7 = .ok (.i2l, 1) := by decide +kernel
theorem dL_oldest_8 : decode cL_oldest 8 = .ok (.lastore, 1) := by decide +kernel
theorem dL_oldest_9 : decode cL_oldest 9 = .ok (.goto 6, 3) := by decide +kernel
theorem dL_oldest_12 : decode cL_oldest 12 = .ok (.astore_n 3, 1) := by decide +kernel
theorem dL_oldest_13 : decode cL_oldest 13 = .ok (.iconst 1, 1) := by decide +kernel
theorem dL_oldest_14 : decode cL_oldest 14 = .ok (.ireturn, 1) := by decide +kernel
theorem dL_oldest_15 : decode cL_oldest 15 = .ok (.iconst 0, 1) := by decide +kernel
theorem dL_oldest_16 : decode cL_oldest 16 = .ok (.ireturn, 1) := by decide +kernel
theorem dL_good_0 : decode cL_good 0 = .ok (.aload_n 2, 1) := by decide +kernel
theorem dL_good_1 : decode cL_good 1 = .ok (.iconst 0, 1) := by decide +kernel
theorem dL_good_2 : decode cL_good 2 = .ok (.aload_n 0, 1) := by decide +kernel
theorem dL_good_3 : decode cL_good 3 = .ok (.iload_n 1, 1) := by decide +kernel
theorem dL_good_4 : decode cL_good 4 = .ok (.invokevirtual 87, 3) := by decide +kernel
theorem dL_good_7 : decode cL_good 7 = .ok (.i2l, 1) := by decide +kernel
theorem dL_good_8 : decode cL_good 8 = .ok (.lastore, 1) := by decide +kernel
theorem dL_good_9 : decode cL_good 9 = .ok (.goto 6, 3) := by decide +kernel
theorem dL_good_12 : decode cL_good 12 = .ok (.astore_n 3, 1) := by decide +kernel
theorem dL_good_13 : decode cL_good 13 = .ok (.iconst 1, 1) := by decide +kernel
theorem dL_good_14 : decode cL_good 14 = .ok (.ireturn, 1) := by decide +kernel
theorem dL_good_15 : decode cL_good 15 = .ok (.iconst 0, 1) := by decide +kernel
theorem dL_good_16 : decode cL_good 16 = .ok (.ireturn, 1) := by decide +kernel
theorem dL_kind_0 : decode cL_kind 0 = .ok (.aload_n 2, 1) := by decide +kernel
theorem dL_kind_1 : decode cL_kind 1 = .ok (.iconst 0, 1) := by decide +kernel
theorem dL_kind_2 : decode cL_kind 2 = .ok (.aload_n 0, 1) := by decide +kernel
theorem dL_kind_3 : decode cL_kind 3 = .ok (.iload_n 1, 1) := by decide +kernel
theorem dL_kind_4 : decode cL_kind 4 = .ok (.invokevirtual 90, 3) := by decide +kernel
theorem dL_kind_7 : decode cL_kind 7 = .ok (.i2l, 1) := by decide +kernel
theorem dL_kind_8 : decode cL_kind 8 = .ok (.lastore, 1) := by decide +kernel
theorem dL_kind_9 : decode cL_kind 9 = .ok (.goto 6, 3) := by decide +kernel
theorem dL_kind_12 : decode cL_kind 12 = .ok (.astore_n 3, 1) := by decide +kernel
theorem dL_kind_13 : decode cL_kind 13 = .ok (.iconst 1, 1) := by decide +kernel
theorem dL_kind_14 : decode cL_kind 14 = .ok (.ireturn, 1) := by decide +kernel
theorem dL_kind_15 : decode cL_kind 15 = .ok (.iconst 0, 1) := by decide +kernel
theorem dL_kind_16 : decode cL_kind 16 = .ok (.ireturn, 1) := by decide +kernel
theorem dL_weighs_0 : decode cL_weighs 0 = .ok (.aload_n 3, 1) := by decide +kernel
theorem dL_weighs_1 : decode cL_weighs 1 = .ok (.iconst 0, 1) := by decide +kernel
theorem dL_weighs_2 : decode cL_weighs 2 = .ok (.aload_n 0, 1) := by decide +kernel
theorem dL_weighs_3 : decode cL_weighs 3 = .ok (.iload_n 1, 1) := by decide +kernel
theorem dL_weighs_4 : decode cL_weighs 4 = .ok (.iload_n 2, 1) := by decide +kernel
theorem dL_weighs_5 : decode cL_weighs 5 = .ok (.invokevirtual 93, 3) := by decide +kernel
theorem dL_weighs_8 : decode cL_weighs 8 = .ok (.i2l, 1) := by decide +kernel
theorem dL_weighs_9 : decode cL_weighs 9 = .ok (.lastore, 1) := by decide +kernel
theorem dL_weighs_10 : decode cL_weighs 10 = .ok (.goto 11, 3) := by decide +kernel
theorem dL_weighs_13 : decode cL_weighs 13 = .ok (.astore 4, 2) := by decide +kernel
theorem dL_weighs_15 : decode cL_weighs 15 = .ok (.iconst 1, 1) := by decide +kernel
theorem dL_weighs_16 : decode cL_weighs 16 = .ok (.ireturn, 1) := by decide +kernel
theorem dL_weighs_17 : decode cL_weighs 17 = .ok (.astore 4, 2) := by decide +kernel
theorem dL_weighs_19 : decode cL_weighs 19 = .ok (.iconst 2, 1) := by decide +kernel
theorem dL_weighs_20 : decode cL_weighs 20 = .ok (.ireturn, 1) := by decide +kernel
theorem dL_weighs_21 : decode cL_weighs 21 = .ok (.iconst 0, 1) := by decide +kernel
theorem dL_weighs_22 : decode cL_weighs 22 = .ok (.ireturn, 1) := by decide +kernel
theorem dL_lightest_0 : decode cL_lightest 0 = .ok (.aload_n 2, 1) := by decide +kernel
theorem dL_lightest_1 : decode cL_lightest 1 = .ok (.iconst 0, 1) := by decide +kernel
theorem dL_lightest_2 : decode cL_lightest 2 = .ok (.aload_n 0, 1) := by decide +kernel
theorem dL_lightest_3 : decode cL_lightest 3 = .ok (.iload_n 1, 1) := by decide +kernel
theorem dL_lightest_4 : decode cL_lightest 4 = .ok (.invokevirtual 96, 3) := by decide +kernel
theorem dL_lightest_7 : decode cL_lightest 7 = .ok (.i2l, 1) := by decide +kernel
theorem dL_lightest_8 : decode cL_lightest 8 = .ok (.lastore, 1) := by decide +kernel
theorem dL_lightest_9 : decode cL_lightest 9 = .ok (.goto 6, 3) := by decide +kernel
theorem dL_lightest_12 : decode cL_lightest 12 = .ok (.astore_n 3, 1) := by decide +kernel
theorem dL_lightest_13 : decode cL_lightest 13 = .ok (.iconst 1, 1) := by decide +kernel
theorem dL_lightest_14 : decode cL_lightest 14 = .ok (.ireturn, 1) := by decide +kernel
theorem dL_lightest_15 : decode cL_lightest 15 = .ok (.iconst 0, 1) := by decide +kernel
theorem dL_lightest_16 : decode cL_lightest 16 = .ok (.ireturn, 1) := by decide +kernel
theorem dL_coolest_0 : decode cL_coolest 0 = .ok (.aload_n 2, 1) := by decide +kernel
theorem dL_coolest_1 : decode cL_coolest 1 = .ok (.iconst 0, 1) := by decide +kernel
theorem dL_coolest_2 : decode cL_coolest 2 = .ok (.aload_n 0, 1) := by decide +kernel
theorem dL_coolest_3 : decode cL_coolest 3 = .ok (.iload_n 1, 1) := by decide +kernel
theorem dL_coolest_4 : decode cL_coolest 4 = .ok (.invokevirtual 99, 3) := by decide +kernel
theorem dL_coolest_7 : decode cL_coolest 7 = .ok (.i2l, 1) := by decide +kernel
theorem dL_coolest_8 : decode cL_coolest 8 = .ok (.lastore, 1) := by decide +kernel
theorem dL_coolest_9 : decode cL_coolest 9 = .ok (.goto 6, 3) := by decide +kernel
theorem dL_coolest_12 : decode cL_coolest 12 = .ok (.astore_n 3, 1) := by decide +kernel
theorem dL_coolest_13 : decode cL_coolest 13 = .ok (.iconst 1, 1) := by decide +kernel
theorem dL_coolest_14 : decode cL_coolest 14 = .ok (.ireturn, 1) := by decide +kernel
theorem dL_coolest_15 : decode cL_coolest 15 = .ok (.iconst 0, 1) := by decide +kernel
theorem dL_coolest_16 : decode cL_coolest 16 = .ok (.ireturn, 1) := by decide +kernel
theorem dL_round_0 : decode cL_round 0 = .ok (.aload_n 2, 1) := by decide +kernel
theorem dL_round_1 : decode cL_round 1 = .ok (.iconst 0, 1) := by decide +kernel
theorem dL_round_2 : decode cL_round 2 = .ok (.aload_n 0, 1) := by decide +kernel
theorem dL_round_3 : decode cL_round 3 = .ok (.iload_n 1, 1) := by decide +kernel
theorem dL_round_4 : decode cL_round 4 = .ok (.invokevirtual 102, 3) := by decide +kernel
theorem dL_round_7 : decode cL_round 7 = .ok (.i2l, 1) := by decide +kernel
theorem dL_round_8 : decode cL_round 8 = .ok (.lastore, 1) := by decide +kernel
theorem dL_round_9 : decode cL_round 9 = .ok (.goto 6, 3) := by decide +kernel
theorem dL_round_12 : decode cL_round 12 = .ok (.astore_n 3, 1) := by decide +kernel
theorem dL_round_13 : decode cL_round 13 = .ok (.iconst 1, 1) := by decide +kernel
theorem dL_round_14 : decode cL_round 14 = .ok (.ireturn, 1) := by decide +kernel
theorem dL_round_15 : decode cL_round 15 = .ok (.iconst 0, 1) := by decide +kernel
theorem dL_round_16 : decode cL_round 16 = .ok (.ireturn, 1) := by decide +kernel
theorem dL_decade_0 : decode cL_decade 0 = .ok (.aload 5, 2) := by decide +kernel
theorem dL_decade_2 : decode cL_decade 2 = .ok (.iconst 0, 1) := by decide +kernel
theorem dL_decade_3 : decode cL_decade 3 = .ok (.aload_n 0, 1) := by decide +kernel
theorem dL_decade_4 : decode cL_decade 4 = .ok (.iload_n 1, 1) := by decide +kernel
theorem dL_decade_5 : decode cL_decade 5 = .ok (.iload_n 2, 1) := by decide +kernel
theorem dL_decade_6 : decode cL_decade 6 = .ok (.iload_n 3, 1) := by decide +kernel
theorem dL_decade_7 : decode cL_decade 7 = .ok (.iload 4, 2) := by decide +kernel
theorem dL_decade_9 : decode cL_decade 9 = .ok (.invokevirtual 105, 3) := by decide +kernel
theorem dL_decade_12 : decode cL_decade 12 = .ok (.i2l, 1) := by decide +kernel
theorem dL_decade_13 : decode cL_decade 13 = .ok (.lastore, 1) := by decide +kernel
theorem dL_decade_14 : decode cL_decade 14 = .ok (.goto 7, 3) := by decide +kernel
theorem dL_decade_17 : decode cL_decade 17 = .ok (.astore 6, 2) := by decide +kernel
theorem dL_decade_19 : decode cL_decade 19 = .ok (.iconst 1, 1) := by decide +kernel
theorem dL_decade_20 : decode cL_decade 20 = .ok (.ireturn, 1) := by decide +kernel
theorem dL_decade_21 : decode cL_decade 21 = .ok (.iconst 0, 1) := by decide +kernel
theorem dL_decade_22 : decode cL_decade 22 = .ok (.ireturn, 1) := by decide +kernel
theorem dL_span_0 : decode cL_span 0 = .ok (.aload 7, 2) := by decide +kernel
theorem dL_span_2 : decode cL_span 2 = .ok (.iconst 0, 1) := by decide +kernel
theorem dL_span_3 : decode cL_span 3 = .ok (.aload_n 0, 1) := by decide +kernel
theorem dL_span_4 : decode cL_span 4 = .ok (.iload_n 1, 1) := by decide +kernel
theorem dL_span_5 : decode cL_span 5 = .ok (.iload_n 2, 1) := by decide +kernel
theorem dL_span_6 : decode cL_span 6 = .ok (.iload_n 3, 1) := by decide +kernel
theorem dL_span_7 : decode cL_span 7 = .ok (.iload 4, 2) := by decide +kernel
theorem dL_span_9 : decode cL_span 9 = .ok (.iload 5, 2) := by decide +kernel
theorem dL_span_11 : decode cL_span 11 = .ok (.iload 6, 2) := by decide +kernel
theorem dL_span_13 : decode cL_span 13 = .ok (.invokevirtual 109, 3) := by decide +kernel
theorem dL_span_16 : decode cL_span 16 = .ok (.i2l, 1) := by decide +kernel
theorem dL_span_17 : decode cL_span 17 = .ok (.lastore, 1) := by decide +kernel
theorem dL_span_18 : decode cL_span 18 = .ok (.goto 7, 3) := by decide +kernel
theorem dL_span_21 : decode cL_span 21 = .ok (.astore 8, 2) := by decide +kernel
theorem dL_span_23 : decode cL_span 23 = .ok (.iconst 1, 1) := by decide +kernel
theorem dL_span_24 : decode cL_span 24 = .ok (.ireturn, 1) := by decide +kernel
theorem dL_span_25 : decode cL_span 25 = .ok (.iconst 0, 1) := by decide +kernel
theorem dL_span_26 : decode cL_span 26 = .ok (.ireturn, 1) := by decide +kernel
