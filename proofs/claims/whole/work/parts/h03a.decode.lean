theorem dX0_init_0 : decode cX0_init 0 = .ok (.aload_n 0, 1) := by decide +kernel
theorem dX0_init_1 : decode cX0_init 1 = .ok (.invokespecial 3, 3) := by decide +kernel
theorem dX0_init_4 : decode cX0_init 4 = .ok (.aload_n 0, 1) := by decide +kernel
theorem dX0_init_5 : decode cX0_init 5 = .ok (.bipush 13, 2) := by decide +kernel
theorem dX0_init_7 : decode cX0_init 7 = .ok (.newarray .int, 2) := by decide +kernel
theorem dX0_init_9 : decode cX0_init 9 = .ok (.putfield 9, 3) := by decide +kernel
theorem dX0_init_12 : decode cX0_init 12 = .ok (.aload_n 0, 1) := by decide +kernel
theorem dX0_init_13 : decode cX0_init 13 = .ok (.iconst 0, 1) := by decide +kernel
theorem dX0_init_14 : decode cX0_init 14 = .ok (.putfield 15, 3) := by decide +kernel
theorem dX0_init_17 : decode cX0_init 17 = .ok (.aload_n 0, 1) := by decide +kernel
theorem dX0_init_18 : decode cX0_init 18 = .ok (.invokevirtual 19, 3) := by decide +kernel
theorem dX0_init_21 : decode cX0_init 21 = .ok (.return_, 1) := by decide +kernel
theorem dX0_clear_0 : decode cX0_clear 0 = .ok (.aload_n 0, 1) := by decide +kernel
theorem dX0_clear_1 : decode cX0_clear 1 = .ok (.getfield 9, 3) := by decide +kernel
theorem dX0_clear_4 : decode cX0_clear 4 = .ok (.iconst (-1), 1) := by decide +kernel
theorem dX0_clear_5 : decode cX0_clear 5 = .ok (.invokestatic 22, 3) := by decide +kernel
theorem dX0_clear_8 : decode cX0_clear 8 = .ok (.aload_n 0, 1) := by decide +kernel
theorem dX0_clear_9 : decode cX0_clear 9 = .ok (.iconst 0, 1) := by decide +kernel
theorem dX0_clear_10 : decode cX0_clear 10 = .ok (.putfield 15, 3) := by decide +kernel
theorem dX0_clear_13 : decode cX0_clear 13 = .ok (.return_, 1) := by decide +kernel
theorem dX0_take_0 : decode cX0_take 0 = .ok (.aload_n 1, 1) := by decide +kernel
theorem dX0_take_1 : decode cX0_take 1 = .ok (.getfield 9, 3) := by decide +kernel
theorem dX0_take_4 : decode cX0_take 4 = .ok (.iconst 0, 1) := by decide +kernel
theorem dX0_take_5 : decode cX0_take 5 = .ok (.aload_n 0, 1) := by decide +kernel
theorem dX0_take_6 : decode cX0_take 6 = .ok (.getfield 9, 3) := by decide +kernel
theorem dX0_take_9 : decode cX0_take 9 = .ok (.iconst 0, 1) := by decide +kernel
theorem dX0_take_10 : decode cX0_take 10 = .ok (.bipush 13, 2) := by decide +kernel
theorem dX0_take_12 : decode cX0_take 12 = .ok (.invokestatic 28, 3) := by decide +kernel
theorem dX0_take_15 : decode cX0_take 15 = .ok (.aload_n 0, 1) := by decide +kernel
theorem dX0_take_16 : decode cX0_take 16 = .ok (.aload_n 1, 1) := by decide +kernel
theorem dX0_take_17 : decode cX0_take 17 = .ok (.getfield 15, 3) := by decide +kernel
theorem dX0_take_20 : decode cX0_take 20 = .ok (.putfield 15, 3) := by decide +kernel
theorem dX0_take_23 : decode cX0_take 23 = .ok (.return_, 1) := by decide +kernel
theorem dX0_read_0 : decode cX0_read 0 = .ok (.aload_n 0, 1) := by decide +kernel
theorem dX0_read_1 : decode cX0_read 1 = .ok (.invokevirtual 19, 3) := by decide +kernel
theorem dX0_read_4 : decode cX0_read 4 = .ok (.iconst 0, 1) := by decide +kernel
theorem dX0_read_5 : decode cX0_read 5 = .ok (.istore_n 2, 1) := by decide +kernel
theorem dX0_read_6 : decode cX0_read 6 = .ok (.iload_n 2, 1) := by decide +kernel
theorem dX0_read_7 : decode cX0_read 7 = .ok (.aload_n 1, 1) := by decide +kernel
theorem dX0_read_8 : decode cX0_read 8 = .ok (.getfield 34, 3) := by decide +kernel
theorem dX0_read_11 : decode cX0_read 11 = .ok (.if_icmp .gt 28, 3) := by decide +kernel
theorem dX0_read_14 : decode cX0_read 14 = .ok (.aload_n 1, 1) := by decide +kernel
theorem dX0_read_15 : decode cX0_read 15 = .ok (.invokevirtual 39, 3) := by decide +kernel
theorem dX0_read_18 : decode cX0_read 18 = .ok (.ifCond .eq 5, 3) := by decide +kernel
theorem dX0_read_21 : decode cX0_read 21 = .ok (.iconst 1, 1) := by decide +kernel
theorem dX0_read_22 : decode cX0_read 22 = .ok (.ireturn, 1) := by decide +kernel
theorem dX0_read_23 : decode cX0_read 23 = .ok (.aload_n 0, 1) := by decide +kernel
theorem dX0_read_24 : decode cX0_read 24 = .ok (.aload_n 1, 1) := by decide +kernel
theorem dX0_read_25 : decode cX0_read 25 = .ok (.invokevirtual 43, 3) := by decide +kernel
theorem dX0_read_28 : decode cX0_read 28 = .ok (.ifCond .ne 5, 3) := by decide +kernel
theorem dX0_read_31 : decode cX0_read 31 = .ok (.iconst 0, 1) := by decide +kernel
theorem dX0_read_32 : decode cX0_read 32 = .ok (.ireturn, 1) := by decide +kernel
theorem dX0_read_33 : decode cX0_read 33 = .ok (.iinc 2 1, 3) := by decide +kernel
theorem dX0_read_36 : decode cX0_read 36 = .ok (.goto (-30), 3) := by decide +kernel
theorem dX0_read_39 : decode cX0_read 39 = .ok (.iconst 1, 1) := by decide +kernel
theorem dX0_read_40 : decode cX0_read 40 = .ok (.ireturn, 1) := by decide +kernel
theorem dX0_readLine_0 : decode cX0_readLine 0 = .ok (.aload_n 1, 1) := by decide +kernel
theorem dX0_readLine_1 : decode cX0_readLine 1 = .ok (.iconst 1, 1) := by decide +kernel
theorem dX0_readLine_2 : decode cX0_readLine 2 = .ok (.bipush 12, 2) := by decide +kernel
theorem dX0_readLine_4 : decode cX0_readLine 4 = .ok (.invokevirtual 47, 3) := by decide +kernel
theorem dX0_readLine_7 : decode cX0_readLine 7 = .ok (.istore_n 2, 1) := by decide +kernel
theorem dX0_readLine_8 : decode cX0_readLine 8 = .ok (.iload_n 2, 1) := by decide +kernel
theorem dX0_readLine_9 : decode cX0_readLine 9 = .ok (.iconst 1, 1) := by decide +kernel
theorem dX0_readLine_10 : decode cX0_readLine 10 = .ok (.if_icmp .lt 9, 3) := by decide +kernel
theorem dX0_readLine_13 : decode cX0_readLine 13 = .ok (.iload_n 2, 1) := by decide +kernel
theorem dX0_readLine_14 : decode cX0_readLine 14 = .ok (.bipush 12, 2) := by decide +kernel
theorem dX0_readLine_16 : decode cX0_readLine 16 = .ok (.if_icmp .le 5, 3) := by decide +kernel
theorem dX0_readLine_19 : decode cX0_readLine 19 = .ok (.iconst 0, 1) := by decide +kernel
theorem dX0_readLine_20 : decode cX0_readLine 20 = .ok (.ireturn, 1) := by decide +kernel
theorem dX0_readLine_21 : decode cX0_readLine 21 = .ok (.aload_n 0, 1) := by decide +kernel
theorem dX0_readLine_22 : decode cX0_readLine 22 = .ok (.getfield 9, 3) := by decide +kernel
theorem dX0_readLine_25 : decode cX0_readLine 25 = .ok (.iload_n 2, 1) := by decide +kernel
theorem dX0_readLine_26 : decode cX0_readLine 26 = .ok (.iaload, 1) := by decide +kernel
theorem dX0_readLine_27 : decode cX0_readLine 27 = .ok (.iconst (-1), 1) := by decide +kernel
theorem dX0_readLine_28 : decode cX0_readLine 28 = .ok (.if_icmp .eq 9, 3) := by decide +kernel
theorem dX0_readLine_31 : decode cX0_readLine 31 = .ok (.aload_n 1, 1) := by decide +kernel
theorem dX0_readLine_32 : decode cX0_readLine 32 = .ok (.iconst 2, 1) := by decide +kernel
theorem dX0_readLine_33 : decode cX0_readLine 33 = .ok (.invokevirtual 51, 3) := by decide +kernel
theorem dX0_readLine_36 : decode cX0_readLine 36 = .ok (.ireturn, 1) := by decide +kernel
theorem dX0_readLine_37 : decode cX0_readLine 37 = .ok (.aload_n 0, 1) := by decide +kernel
theorem dX0_readLine_38 : decode cX0_readLine 38 = .ok (.getfield 15, 3) := by decide +kernel
theorem dX0_readLine_41 : decode cX0_readLine 41 = .ok (.bipush 6, 2) := by decide +kernel
theorem dX0_readLine_43 : decode cX0_readLine 43 = .ok (.if_icmp .lt 9, 3) := by decide +kernel
theorem dX0_readLine_46 : decode cX0_readLine 46 = .ok (.aload_n 1, 1) := by decide +kernel
theorem dX0_readLine_47 : decode cX0_readLine 47 = .ok (.iconst 3, 1) := by decide +kernel
theorem dX0_readLine_48 : decode cX0_readLine 48 = .ok (.invokevirtual 51, 3) := by decide +kernel
theorem dX0_readLine_51 : decode cX0_readLine 51 = .ok (.ireturn, 1) := by decide +kernel
theorem dX0_readLine_52 : decode cX0_readLine 52 = .ok (.aload_n 0, 1) := by decide +kernel
theorem dX0_readLine_53 : decode cX0_readLine 53 = .ok (.getfield 9, 3) := by decide +kernel
theorem dX0_readLine_56 : decode cX0_readLine 56 = .ok (.iload_n 2, 1) := by decide +kernel
theorem dX0_readLine_57 : decode cX0_readLine 57 = .ok (.aload_n 1, 1) := by decide +kernel
theorem dX0_readLine_58 : decode cX0_readLine 58 = .ok (.iconst 0, 1) := by decide +kernel
theorem dX0_readLine_59 : decode cX0_readLine 59 = .ok (.bipush 99, 2) := by decide +kernel
theorem dX0_readLine_61 : decode cX0_readLine 61 = .ok (.invokevirtual 47, 3) := by decide +kernel
theorem dX0_readLine_64 : decode cX0_readLine 64 = .ok (.iastore, 1) := by decide +kernel
theorem dX0_readLine_65 : decode cX0_readLine 65 = .ok (.aload_n 0, 1) := by decide +kernel
theorem dX0_readLine_66 : decode cX0_readLine 66 = .ok (.getfield 9, 3) := by decide +kernel
theorem dX0_readLine_69 : decode cX0_readLine 69 = .ok (.iload_n 2, 1) := by decide +kernel
theorem dX0_readLine_70 : decode cX0_readLine 70 = .ok (.iaload, 1) := by decide +kernel
theorem dX0_readLine_71 : decode cX0_readLine 71 = .ok (.iconst (-1), 1) := by decide +kernel
theorem dX0_readLine_72 : decode cX0_readLine 72 = .ok (.if_icmp .ne 5, 3) := by decide +kernel
theorem dX0_readLine_75 : decode cX0_readLine 75 = .ok (.iconst 0, 1) := by decide +kernel
theorem dX0_readLine_76 : decode cX0_readLine 76 = .ok (.ireturn, 1) := by decide +kernel
theorem dX0_readLine_77 : decode cX0_readLine 77 = .ok (.aload_n 0, 1) := by decide +kernel
theorem dX0_readLine_78 : decode cX0_readLine 78 = .ok (.dup, 1) := by decide +kernel
theorem dX0_readLine_79 : decode cX0_readLine 79 = .ok (.getfield 15, 3) := by decide +kernel
theorem dX0_readLine_82 : decode cX0_readLine 82 = .ok (.iconst 1, 1) := by decide +kernel
theorem dX0_readLine_83 : decode cX0_readLine 83 = .ok (.iadd, 1) := by decide +kernel
theorem dX0_readLine_84 : decode cX0_readLine 84 = .ok (.putfield 15, 3) := by decide +kernel
theorem dX0_readLine_87 : decode cX0_readLine 87 = .ok (.aload_n 1, 1) := by decide +kernel
theorem dX0_readLine_88 : decode cX0_readLine 88 = .ok (.bipush 59, 2) := by decide +kernel
theorem dX0_readLine_90 : decode cX0_readLine 90 = .ok (.invokevirtual 55, 3) := by decide +kernel
theorem dX0_readLine_93 : decode cX0_readLine 93 = .ok (.ireturn, 1) := by decide +kernel
theorem dX0_hasLine_0 : decode cX0_hasLine 0 = .ok (.iload_n 1, 1) := by decide +kernel
theorem dX0_hasLine_1 : decode cX0_hasLine 1 = .ok (.ifCond .lt 23, 3) := by decide +kernel
theorem dX0_hasLine_4 : decode cX0_hasLine 4 = .ok (.iload_n 1, 1) := by decide +kernel
theorem dX0_hasLine_5 : decode cX0_hasLine 5 = .ok (.bipush 12, 2) := by decide +kernel
theorem dX0_hasLine_7 : decode cX0_hasLine 7 = .ok (.if_icmp .gt 17, 3) := by decide +kernel
theorem dX0_hasLine_10 : decode cX0_hasLine 10 = .ok (.aload_n 0, 1) := by decide +kernel
theorem dX0_hasLine_11 : decode cX0_hasLine 11 = .ok (.getfield 9, 3) := by decide +kernel
theorem dX0_hasLine_14 : decode cX0_hasLine 14 = .ok (.iload_n 1, 1) := by decide +kernel
theorem dX0_hasLine_15 : decode cX0_hasLine 15 = .ok (.iaload, 1) := by decide +kernel
theorem dX0_hasLine_16 : decode cX0_hasLine 16 = .ok (.iconst (-1), 1) := by decide +kernel
theorem dX0_hasLine_17 : decode cX0_hasLine 17 = .ok (.if_icmp .eq 7, 3) := by decide +kernel
theorem dX0_hasLine_20 : decode cX0_hasLine 20 = .ok (.iconst 1, 1) := by decide +kernel
theorem dX0_hasLine_21 : decode cX0_hasLine 21 = .ok (.goto 4, 3) := by decide +kernel
theorem dX0_hasLine_24 : decode cX0_hasLine 24 = .ok (.iconst 0, 1) := by decide +kernel
theorem dX0_hasLine_25 : decode cX0_hasLine 25 = .ok (.ireturn, 1) := by decide +kernel
theorem dX0_allows_0 : decode cX0_allows 0 = .ok (.iload_n 1, 1) := by decide +kernel
theorem dX0_allows_1 : decode cX0_allows 1 = .ok (.ifCond .lt 29, 3) := by decide +kernel
theorem dX0_allows_4 : decode cX0_allows 4 = .ok (.iload_n 1, 1) := by decide +kernel
theorem dX0_allows_5 : decode cX0_allows 5 = .ok (.bipush 12, 2) := by decide +kernel
theorem dX0_allows_7 : decode cX0_allows 7 = .ok (.if_icmp .gt 23, 3) := by decide +kernel
theorem dX0_allows_10 : decode cX0_allows 10 = .ok (.aload_n 0, 1) := by decide +kernel
theorem dX0_allows_11 : decode cX0_allows 11 = .ok (.getfield 9, 3) := by decide +kernel
theorem dX0_allows_14 : decode cX0_allows 14 = .ok (.iload_n 1, 1) := by decide +kernel
theorem dX0_allows_15 : decode cX0_allows 15 = .ok (.iaload, 1) := by decide +kernel
theorem dX0_allows_16 : decode cX0_allows 16 = .ok (.iconst (-1), 1) := by decide +kernel
theorem dX0_allows_17 : decode cX0_allows 17 = .ok (.if_icmp .eq 13, 3) := by decide +kernel
theorem dX0_allows_20 : decode cX0_allows 20 = .ok (.aload_n 0, 1) := by decide +kernel
theorem dX0_allows_21 : decode cX0_allows 21 = .ok (.getfield 9, 3) := by decide +kernel
theorem dX0_allows_24 : decode cX0_allows 24 = .ok (.iload_n 1, 1) := by decide +kernel
theorem dX0_allows_25 : decode cX0_allows 25 = .ok (.iaload, 1) := by decide +kernel
theorem dX0_allows_26 : decode cX0_allows 26 = .ok (.iload_n 2, 1) := by decide +kernel
theorem dX0_allows_27 : decode cX0_allows 27 = .ok (.if_icmp .ne 7, 3) := by decide +kernel
theorem dX0_allows_30 : decode cX0_allows 30 = .ok (.iconst 1, 1) := by decide +kernel
theorem dX0_allows_31 : decode cX0_allows 31 = .ok (.goto 4, 3) := by decide +kernel
theorem dX0_allows_34 : decode cX0_allows 34 = .ok (.iconst 0, 1) := by decide +kernel
theorem dX0_allows_35 : decode cX0_allows 35 = .ok (.ireturn, 1) := by decide +kernel
theorem dX0_lastDay_0 : decode cX0_lastDay 0 = .ok (.bipush 12, 2) := by decide +kernel
theorem dX0_lastDay_2 : decode cX0_lastDay 2 = .ok (.istore_n 1, 1) := by decide +kernel
theorem dX0_lastDay_3 : decode cX0_lastDay 3 = .ok (.iload_n 1, 1) := by decide +kernel
theorem dX0_lastDay_4 : decode cX0_lastDay 4 = .ok (.ifCond .le 21, 3) := by decide +kernel
theorem dX0_lastDay_7 : decode cX0_lastDay 7 = .ok (.aload_n 0, 1) := by decide +kernel
theorem dX0_lastDay_8 : decode cX0_lastDay 8 = .ok (.getfield 9, 3) := by decide +kernel
theorem dX0_lastDay_11 : decode cX0_lastDay 11 = .ok (.iload_n 1, 1) := by decide +kernel
theorem dX0_lastDay_12 : decode cX0_lastDay 12 = .ok (.iaload, 1) := by decide +kernel
theorem dX0_lastDay_13 : decode cX0_lastDay 13 = .ok (.iconst (-1), 1) := by decide +kernel
theorem dX0_lastDay_14 : decode cX0_lastDay 14 = .ok (.if_icmp .eq 5, 3) := by decide +kernel
theorem dX0_lastDay_17 : decode cX0_lastDay 17 = .ok (.iload_n 1, 1) := by decide +kernel
theorem dX0_lastDay_18 : decode cX0_lastDay 18 = .ok (.ireturn, 1) := by decide +kernel
theorem dX0_lastDay_19 : decode cX0_lastDay 19 = .ok (.iinc 1 (-1), 3) := by decide +kernel
theorem dX0_lastDay_22 : decode cX0_lastDay 22 = .ok (.goto (-19), 3) := by decide +kernel
theorem dX0_lastDay_25 : decode cX0_lastDay 25 = .ok (.iconst 0, 1) := by decide +kernel
theorem dX0_lastDay_26 : decode cX0_lastDay 26 = .ok (.ireturn, 1) := by decide +kernel
theorem dX1_init_0 : decode cX1_init 0 = .ok (.aload_n 0, 1) := by decide +kernel
theorem dX1_init_1 : decode cX1_init 1 = .ok (.invokespecial 3, 3) := by decide +kernel
theorem dX1_init_4 : decode cX1_init 4 = .ok (.aload_n 0, 1) := by decide +kernel
theorem dX1_init_5 : decode cX1_init 5 = .ok (.iconst 0, 1) := by decide +kernel
theorem dX1_init_6 : decode cX1_init 6 = .ok (.putfield 9, 3) := by decide +kernel
theorem dX1_init_9 : decode cX1_init 9 = .ok (.aload_n 0, 1) := by decide +kernel
theorem dX1_init_10 : decode cX1_init 10 = .ok (.aload_n 1, 1) := by decide +kernel
theorem dX1_init_11 : decode cX1_init 11 = .ok (.putfield 15, 3) := by decide +kernel
theorem dX1_init_14 : decode cX1_init 14 = .ok (.aload_n 0, 1) := by decide +kernel
theorem dX1_init_15 : decode cX1_init 15 = .ok (.aload_n 2, 1) := by decide +kernel
theorem dX1_init_16 : decode cX1_init 16 = .ok (.putfield 19, 3) := by decide +kernel
theorem dX1_init_19 : decode cX1_init 19 = .ok (.aload_n 0, 1) := by decide +kernel
theorem dX1_init_20 : decode cX1_init 20 = .ok (.aload_n 3, 1) := by decide +kernel
theorem dX1_init_21 : decode cX1_init 21 = .ok (.putfield 23, 3) := by decide +kernel
theorem dX1_init_24 : decode cX1_init 24 = .ok (.return_, 1) := by decide +kernel
theorem dX1_pass_0 : decode cX1_pass 0 = .ok (.aload_n 0, 1) := by decide +kernel
theorem dX1_pass_1 : decode cX1_pass 1 = .ok (.iload_n 1, 1) := by decide +kernel
theorem dX1_pass_2 : decode cX1_pass 2 = .ok (.putfield 9, 3) := by decide +kernel
theorem dX1_pass_5 : decode cX1_pass 5 = .ok (.aload_n 0, 1) := by decide +kernel
theorem dX1_pass_6 : decode cX1_pass 6 = .ok (.getfield 23, 3) := by decide +kernel
theorem dX1_pass_9 : decode cX1_pass 9 = .ok (.aload_n 0, 1) := by decide +kernel
theorem dX1_pass_10 : decode cX1_pass 10 = .ok (.getfield 19, 3) := by decide +kernel
theorem dX1_pass_13 : decode cX1_pass 13 = .ok (.invokevirtual 26, 3) := by decide +kernel
theorem dX1_pass_16 : decode cX1_pass 16 = .ok (.iconst 0, 1) := by decide +kernel
theorem dX1_pass_17 : decode cX1_pass 17 = .ok (.istore 4, 2) := by decide +kernel
theorem dX1_pass_19 : decode cX1_pass 19 = .ok (.iload 4, 2) := by decide +kernel
theorem dX1_pass_21 : decode cX1_pass 21 = .ok (.iload_n 2, 1) := by decide +kernel
theorem dX1_pass_22 : decode cX1_pass 22 = .ok (.if_icmp .ge 31, 3) := by decide +kernel
theorem dX1_pass_25 : decode cX1_pass 25 = .ok (.aload_n 0, 1) := by decide +kernel
theorem dX1_pass_26 : decode cX1_pass 26 = .ok (.getfield 15, 3) := by decide +kernel
theorem dX1_pass_29 : decode cX1_pass 29 = .ok (.getfield 32, 3) := by decide +kernel
theorem dX1_pass_32 : decode cX1_pass 32 = .ok (.ifCond .le 8, 3) := by decide +kernel
theorem dX1_pass_35 : decode cX1_pass 35 = .ok (.aload_n 0, 1) := by decide +kernel
theorem dX1_pass_36 : decode cX1_pass 36 = .ok (.iload_n 3, 1) := by decide +kernel
theorem dX1_pass_37 : decode cX1_pass 37 = .ok (.invokevirtual 37, 3) := by decide +kernel
theorem dX1_pass_40 : decode cX1_pass 40 = .ok (.aload_n 0, 1) := by decide +kernel
theorem dX1_pass_41 : decode cX1_pass 41 = .ok (.getfield 23, 3) := by decide +kernel
theorem dX1_pass_44 : decode cX1_pass 44 = .ok (.invokevirtual 41, 3) := by decide +kernel
theorem dX1_pass_47 : decode cX1_pass 47 = .ok (.iinc 4 1, 3) := by decide +kernel
theorem dX1_pass_50 : decode cX1_pass 50 = .ok (.goto (-31), 3) := by decide +kernel
theorem dX1_pass_53 : decode cX1_pass 53 = .ok (.return_, 1) := by decide +kernel
theorem dX1_meddle_0 : decode cX1_meddle 0 = .ok (.aload_n 0, 1) := by decide +kernel
theorem dX1_meddle_1 : decode cX1_meddle 1 = .ok (.aload_n 0, 1) := by decide +kernel
theorem dX1_meddle_2 : decode cX1_meddle 2 = .ok (.getfield 15, 3) := by decide +kernel
theorem dX1_meddle_5 : decode cX1_meddle 5 = .ok (.getfield 32, 3) := by decide +kernel
theorem dX1_meddle_8 : decode cX1_meddle 8 = .ok (.invokevirtual 44, 3) := by decide +kernel
theorem dX1_meddle_11 : decode cX1_meddle 11 = .ok (.istore_n 2, 1) := by decide +kernel
theorem dX1_meddle_12 : decode cX1_meddle 12 = .ok (.aload_n 0, 1) := by decide +kernel
theorem dX1_meddle_13 : decode cX1_meddle 13 = .ok (.getfield 23, 3) := by decide +kernel
theorem dX1_meddle_16 : decode cX1_meddle 16 = .ok (.iload_n 2, 1) := by decide +kernel
theorem dX1_meddle_17 : decode cX1_meddle 17 = .ok (.invokevirtual 48, 3) := by decide +kernel
theorem dX1_meddle_20 : decode cX1_meddle 20 = .ok (.ifCond .ne 12, 3) := by decide +kernel
theorem dX1_meddle_23 : decode cX1_meddle 23 = .ok (.aload_n 0, 1) := by decide +kernel
theorem dX1_meddle_24 : decode cX1_meddle 24 = .ok (.getfield 23, 3) := by decide +kernel
theorem dX1_meddle_27 : decode cX1_meddle 27 = .ok (.iload_n 2, 1) := by decide +kernel
theorem dX1_meddle_28 : decode cX1_meddle 28 = .ok (.invokevirtual 52, 3) := by decide +kernel
theorem dX1_meddle_31 : decode cX1_meddle 31 = .ok (.pop, 1) := by decide +kernel
theorem dX1_meddle_32 : decode cX1_meddle 32 = .ok (.aload_n 0, 1) := by decide +kernel
theorem dX1_meddle_33 : decode cX1_meddle 33 = .ok (.bipush 16, 2) := by decide +kernel
theorem dX1_meddle_35 : decode cX1_meddle 35 = .ok (.invokevirtual 44, 3) := by decide +kernel
theorem dX1_meddle_38 : decode cX1_meddle 38 = .ok (.iload_n 1, 1) := by decide +kernel
theorem dX1_meddle_39 : decode cX1_meddle 39 = .ok (.if_icmp .ge 39, 3) := by decide +kernel
theorem dX1_meddle_42 : decode cX1_meddle 42 = .ok (.aload_n 0, 1) := by decide +kernel
theorem dX1_meddle_43 : decode cX1_meddle 43 = .ok (.aload_n 0, 1) := by decide +kernel
theorem dX1_meddle_44 : decode cX1_meddle 44 = .ok (.getfield 15, 3) := by decide +kernel
theorem dX1_meddle_47 : decode cX1_meddle 47 = .ok (.getfield 32, 3) := by decide +kernel
theorem dX1_meddle_50 : decode cX1_meddle 50 = .ok (.invokevirtual 44, 3) := by decide +kernel
theorem dX1_meddle_53 : decode cX1_meddle 53 = .ok (.istore_n 3, 1) := by decide +kernel
theorem dX1_meddle_54 : decode cX1_meddle 54 = .ok (.aload_n 0, 1) := by decide +kernel
theorem dX1_meddle_55 : decode cX1_meddle 55 = .ok (.aload_n 0, 1) := by decide +kernel
theorem dX1_meddle_56 : decode cX1_meddle 56 = .ok (.getfield 15, 3) := by decide +kernel
theorem dX1_meddle_59 : decode cX1_meddle 59 = .ok (.getfield 55, 3) := by decide +kernel
theorem dX1_meddle_62 : decode cX1_meddle 62 = .ok (.invokevirtual 44, 3) := by decide +kernel
theorem dX1_meddle_65 : decode cX1_meddle 65 = .ok (.istore 4, 2) := by decide +kernel
theorem dX1_meddle_67 : decode cX1_meddle 67 = .ok (.aload_n 0, 1) := by decide +kernel
theorem dX1_meddle_68 : decode cX1_meddle 68 = .ok (.getfield 23, 3) := by decide +kernel
theorem dX1_meddle_71 : decode cX1_meddle 71 = .ok (.iload_n 3, 1) := by decide +kernel
theorem dX1_meddle_72 : decode cX1_meddle 72 = .ok (.iload 4, 2) := by decide +kernel
theorem dX1_meddle_74 : decode cX1_meddle 74 = .ok (.invokevirtual 58, 3) := by decide +kernel
theorem dX1_meddle_77 : decode cX1_meddle 77 = .ok (.pop, 1) := by decide +kernel
theorem dX1_meddle_78 : decode cX1_meddle 78 = .ok (.return_, 1) := by decide +kernel
theorem dX1_draw_0 : decode cX1_draw 0 = .ok (.aload_n 0, 1) := by decide +kernel
theorem dX1_draw_1 : decode cX1_draw 1 = .ok (.aload_n 0, 1) := by decide +kernel
theorem dX1_draw_2 : decode cX1_draw 2 = .ok (.getfield 9, 3) := by decide +kernel
theorem dX1_draw_5 : decode cX1_draw 5 = .ok (.ldc 62, 2) := by decide +kernel
theorem dX1_draw_7 : decode cX1_draw 7 = .ok (.imul, 1) := by decide +kernel
theorem dX1_draw_8 : decode cX1_draw 8 = .ok (.sipush 12345, 3) := by decide +kernel
theorem dX1_draw_11 : decode cX1_draw 11 = .ok (.iadd, 1) := by decide +kernel
theorem dX1_draw_12 : decode cX1_draw 12 = .ok (.putfield 9, 3) := by decide +kernel
theorem dX1_draw_15 : decode cX1_draw 15 = .ok (.iload_n 1, 1) := by decide +kernel
theorem dX1_draw_16 : decode cX1_draw 16 = .ok (.ifCond .le 19, 3) := by decide +kernel
theorem dX1_draw_19 : decode cX1_draw 19 = .ok (.aload_n 0, 1) := by decide +kernel
theorem dX1_draw_20 : decode cX1_draw 20 = .ok (.getfield 9, 3) := by decide +kernel
theorem dX1_draw_23 : decode cX1_draw 23 = .ok (.bipush 16, 2) := by decide +kernel
theorem dX1_draw_25 : decode cX1_draw 25 = .ok (.ishr, 1) := by decide +kernel
theorem dX1_draw_26 : decode cX1_draw 26 = .ok (.sipush 32767, 3) := by decide +kernel
theorem dX1_draw_29 : decode cX1_draw 29 = .ok (.iand, 1) := by decide +kernel
theorem dX1_draw_30 : decode cX1_draw 30 = .ok (.iload_n 1, 1) := by decide +kernel
theorem dX1_draw_31 : decode cX1_draw 31 = .ok (.irem, 1) := by decide +kernel
theorem dX1_draw_32 : decode cX1_draw 32 = .ok (.goto 4, 3) := by decide +kernel
theorem dX1_draw_35 : decode cX1_draw 35 = .ok (.iconst 0, 1) := by decide +kernel
theorem dX1_draw_36 : decode cX1_draw 36 = .ok (.ireturn, 1) := by decide +kernel
theorem dX2_init_0 : decode cX2_init 0 = .ok (.aload_n 0, 1) := by decide +kernel
theorem dX2_init_1 : decode cX2_init 1 = .ok (.invokespecial 3, 3) := by decide +kernel
theorem dX2_init_4 : decode cX2_init 4 = .ok (.aload_n 0, 1) := by decide +kernel
theorem dX2_init_5 : decode cX2_init 5 = .ok (.bipush 12, 2) := by decide +kernel
theorem dX2_init_7 : decode cX2_init 7 = .ok (.newarray .int, 2) := by decide +kernel
theorem dX2_init_9 : decode cX2_init 9 = .ok (.putfield 9, 3) := by decide +kernel
theorem dX2_init_12 : decode cX2_init 12 = .ok (.aload_n 0, 1) := by decide +kernel
theorem dX2_init_13 : decode cX2_init 13 = .ok (.sipush 4096, 3) := by decide +kernel
theorem dX2_init_16 : decode cX2_init 16 = .ok (.newarray .int, 2) := by decide +kernel
theorem dX2_init_18 : decode cX2_init 18 = .ok (.putfield 15, 3) := by decide +kernel
theorem dX2_init_21 : decode cX2_init 21 = .ok (.aload_n 0, 1) := by decide +kernel
theorem dX2_init_22 : decode cX2_init 22 = .ok (.iconst 0, 1) := by decide +kernel
theorem dX2_init_23 : decode cX2_init 23 = .ok (.putfield 18, 3) := by decide +kernel
theorem dX2_init_26 : decode cX2_init 26 = .ok (.aload_n 0, 1) := by decide +kernel
theorem dX2_init_27 : decode cX2_init 27 = .ok (.iconst (-1), 1) := by decide +kernel
theorem dX2_init_28 : decode cX2_init 28 = .ok (.putfield 22, 3) := by decide +kernel
theorem dX2_init_31 : decode cX2_init 31 = .ok (.aload_n 0, 1) := by decide +kernel
theorem dX2_init_32 : decode cX2_init 32 = .ok (.aload_n 1, 1) := by decide +kernel
theorem dX2_init_33 : decode cX2_init 33 = .ok (.putfield 25, 3) := by decide +kernel
theorem dX2_init_36 : decode cX2_init 36 = .ok (.aload_n 0, 1) := by decide +kernel
theorem dX2_init_37 : decode cX2_init 37 = .ok (.aload_n 2, 1) := by decide +kernel
theorem dX2_init_38 : decode cX2_init 38 = .ok (.putfield 29, 3) := by decide +kernel
theorem dX2_init_41 : decode cX2_init 41 = .ok (.return_, 1) := by decide +kernel
theorem dX2_sumParts_0 : decode cX2_sumParts 0 = .ok (.aload_n 0, 1) := by decide +kernel
theorem dX2_sumParts_1 : decode cX2_sumParts 1 = .ok (.getfield 15, 3) := by decide +kernel
theorem dX2_sumParts_4 : decode cX2_sumParts 4 = .ok (.iconst 0, 1) := by decide +kernel
theorem dX2_sumParts_5 : decode cX2_sumParts 5 = .ok (.iconst 0, 1) := by decide +kernel
theorem dX2_sumParts_6 : decode cX2_sumParts 6 = .ok (.iastore, 1) := by decide +kernel
theorem dX2_sumParts_7 : decode cX2_sumParts 7 = .ok (.iconst 1, 1) := by decide +kernel
theorem dX2_sumParts_8 : decode cX2_sumParts 8 = .ok (.istore_n 2, 1) := by decide +kernel
theorem dX2_sumParts_9 : decode cX2_sumParts 9 = .ok (.iload_n 2, 1) := by decide +kernel
theorem dX2_sumParts_10 : decode cX2_sumParts 10 = .ok (.sipush 4096, 3) := by decide +kernel
theorem dX2_sumParts_13 : decode cX2_sumParts 13 = .ok (.if_icmp .ge 56, 3) := by decide +kernel
theorem dX2_sumParts_16 : decode cX2_sumParts 16 = .ok (.iload_n 2, 1) := by decide +kernel
theorem dX2_sumParts_17 : decode cX2_sumParts 17 = .ok (.iload_n 1, 1) := by decide +kernel
theorem dX2_sumParts_18 : decode cX2_sumParts 18 = .ok (.iconst (-1), 1) := by decide +kernel
theorem dX2_sumParts_19 : decode cX2_sumParts 19 = .ok (.ixor, 1) := by decide +kernel
theorem dX2_sumParts_20 : decode cX2_sumParts 20 = .ok (.iand, 1) := by decide +kernel
theorem dX2_sumParts_21 : decode cX2_sumParts 21 = .ok (.ifCond .ne 42, 3) := by decide +kernel
theorem dX2_sumParts_24 : decode cX2_sumParts 24 = .ok (.iload_n 2, 1) := by decide +kernel
theorem dX2_sumParts_25 : decode cX2_sumParts 25 = .ok (.iload_n 2, 1) := by decide +kernel
theorem dX2_sumParts_26 : decode cX2_sumParts 26 = .ok (.ineg, 1) := by decide +kernel
theorem dX2_sumParts_27 : decode cX2_sumParts 27 = .ok (.iand, 1) := by decide +kernel
theorem dX2_sumParts_28 : decode cX2_sumParts 28 = .ok (.iconst 1, 1) := by decide +kernel
theorem dX2_sumParts_29 : decode cX2_sumParts 29 = .ok (.isub, 1) := by decide +kernel
theorem dX2_sumParts_30 : decode cX2_sumParts 30 = .ok (.invokestatic 33, 3) := by decide +kernel
theorem dX2_sumParts_33 : decode cX2_sumParts 33 = .ok (.istore_n 3, 1) := by decide +kernel
theorem dX2_sumParts_34 : decode cX2_sumParts 34 = .ok (.iload_n 3, 1) := by decide +kernel
theorem dX2_sumParts_35 : decode cX2_sumParts 35 = .ok (.bipush 12, 2) := by decide +kernel
theorem dX2_sumParts_37 : decode cX2_sumParts 37 = .ok (.if_icmp .ge 26, 3) := by decide +kernel
theorem dX2_sumParts_40 : decode cX2_sumParts 40 = .ok (.aload_n 0, 1) := by decide +kernel
theorem dX2_sumParts_41 : decode cX2_sumParts 41 = .ok (.getfield 15, 3) := by decide +kernel
theorem dX2_sumParts_44 : decode cX2_sumParts 44 = .ok (.iload_n 2, 1) := by decide +kernel
theorem dX2_sumParts_45 : decode cX2_sumParts 45 = .ok (.aload_n 0, 1) := by decide +kernel
theorem dX2_sumParts_46 : decode cX2_sumParts 46 = .ok (.getfield 15, 3) := by decide +kernel
theorem dX2_sumParts_49 : decode cX2_sumParts 49 = .ok (.iload_n 2, 1) := by decide +kernel
theorem dX2_sumParts_50 : decode cX2_sumParts 50 = .ok (.iload_n 2, 1) := by decide +kernel
theorem dX2_sumParts_51 : decode cX2_sumParts 51 = .ok (.iconst 1, 1) := by decide +kernel
theorem dX2_sumParts_52 : decode cX2_sumParts 52 = .ok (.isub, 1) := by decide +kernel
theorem dX2_sumParts_53 : decode cX2_sumParts 53 = .ok (.iand, 1) := by decide +kernel
theorem dX2_sumParts_54 : decode cX2_sumParts 54 = .ok (.iaload, 1) := by decide +kernel
theorem dX2_sumParts_55 : decode cX2_sumParts 55 = .ok (.aload_n 0, 1) := by decide +kernel
theorem dX2_sumParts_56 : decode cX2_sumParts 56 = .ok (.getfield 9, 3) := by decide +kernel
theorem dX2_sumParts_59 : decode cX2_sumParts 59 = .ok (.iload_n 3, 1) := by decide +kernel
theorem dX2_sumParts_60 : decode cX2_sumParts 60 = .ok (.iaload, 1) := by decide +kernel
theorem dX2_sumParts_61 : decode cX2_sumParts 61 = .ok (.iadd, 1) := by decide +kernel
theorem dX2_sumParts_62 : decode cX2_sumParts 62 = .ok (.iastore, 1) := by decide +kernel
theorem dX2_sumParts_63 : decode cX2_sumParts 63 = .ok (.iinc 2 1, 3) := by decide +kernel
theorem dX2_sumParts_66 : decode cX2_sumParts 66 = .ok (.goto (-57), 3) := by decide +kernel
theorem dX2_sumParts_69 : decode cX2_sumParts 69 = .ok (.return_, 1) := by decide +kernel
theorem dX2_digitOf_0 : decode cX2_digitOf 0 = .ok (.iconst 1, 1) := by decide +kernel
theorem dX2_digitOf_1 : decode cX2_digitOf 1 = .ok (.istore_n 1, 1) := by decide +kernel
theorem dX2_digitOf_2 : decode cX2_digitOf 2 = .ok (.iconst 0, 1) := by decide +kernel
theorem dX2_digitOf_3 : decode cX2_digitOf 3 = .ok (.istore_n 2, 1) := by decide +kernel
theorem dX2_digitOf_4 : decode cX2_digitOf 4 = .ok (.iload_n 2, 1) := by decide +kernel
theorem dX2_digitOf_5 : decode cX2_digitOf 5 = .ok (.iload_n 0, 1) := by decide +kernel
theorem dX2_digitOf_6 : decode cX2_digitOf 6 = .ok (.if_icmp .ge 20, 3) := by decide +kernel
theorem dX2_digitOf_9 : decode cX2_digitOf 9 = .ok (.iload_n 2, 1) := by decide +kernel
theorem dX2_digitOf_10 : decode cX2_digitOf 10 = .ok (.bipush 6, 2) := by decide +kernel
theorem dX2_digitOf_12 : decode cX2_digitOf 12 = .ok (.if_icmp .ge 14, 3) := by decide +kernel
theorem dX2_digitOf_15 : decode cX2_digitOf 15 = .ok (.iload_n 1, 1) := by decide +kernel
theorem dX2_digitOf_16 : decode cX2_digitOf 16 = .ok (.bipush 25, 2) := by decide +kernel
theorem dX2_digitOf_18 : decode cX2_digitOf 18 = .ok (.imul, 1) := by decide +kernel
theorem dX2_digitOf_19 : decode cX2_digitOf 19 = .ok (.istore_n 1, 1) := by decide +kernel
theorem dX2_digitOf_20 : decode cX2_digitOf 20 = .ok (.iinc 2 1, 3) := by decide +kernel
theorem dX2_digitOf_23 : decode cX2_digitOf 23 = .ok (.goto (-19), 3) := by decide +kernel
theorem dX2_digitOf_26 : decode cX2_digitOf 26 = .ok (.iload_n 1, 1) := by decide +kernel
theorem dX2_digitOf_27 : decode cX2_digitOf 27 = .ok (.ireturn, 1) := by decide +kernel
theorem dX2_mostCancelling_0 : decode cX2_mostCancelling 0 = .ok (.aload_n 0, 1) := by decide +kernel
theorem dX2_mostCancelling_1 : decode cX2_mostCancelling 1 = .ok (.getfield 29, 3) := by decide +kernel
theorem dX2_mostCancelling_4 : decode cX2_mostCancelling 4 = .ok (.invokevirtual 39, 3) := by decide +kernel
theorem dX2_mostCancelling_7 : decode cX2_mostCancelling 7 = .ok (.istore_n 1, 1) := by decide +kernel
theorem dX2_mostCancelling_8 : decode cX2_mostCancelling 8 = .ok (.iconst 0, 1) := by decide +kernel
theorem dX2_mostCancelling_9 : decode cX2_mostCancelling 9 = .ok (.istore_n 2, 1) := by decide +kernel
theorem dX2_mostCancelling_10 : decode cX2_mostCancelling 10 = .ok (.iload_n 2, 1) := by decide +kernel
theorem dX2_mostCancelling_11 : decode cX2_mostCancelling 11 = .ok (.bipush 12, 2) := by decide +kernel
theorem dX2_mostCancelling_13 : decode cX2_mostCancelling 13 = .ok (.if_icmp .ge 40, 3) := by decide +kernel
theorem dX2_mostCancelling_16 : decode cX2_mostCancelling 16 = .ok (.aload_n 0, 1) := by decide +kernel
theorem dX2_mostCancelling_17 : decode cX2_mostCancelling 17 = .ok (.getfield 9, 3) := by decide +kernel
theorem dX2_mostCancelling_20 : decode cX2_mostCancelling 20 = .ok (.iload_n 2, 1) := by decide +kernel
theorem dX2_mostCancelling_21 : decode cX2_mostCancelling 21 = .ok (.aload_n 0, 1) := by decide +kernel
theorem dX2_mostCancelling_22 : decode cX2_mostCancelling 22 = .ok (.getfield 25, 3) := by decide +kernel
theorem dX2_mostCancelling_25 : decode cX2_mostCancelling 25 = .ok (.getfield 45, 3) := by decide +kernel
theorem dX2_mostCancelling_28 : decode cX2_mostCancelling 28 = .ok (.iload_n 2, 1) := by decide +kernel
theorem dX2_mostCancelling_29 : decode cX2_mostCancelling 29 = .ok (.iaload, 1) := by decide +kernel
theorem dX2_mostCancelling_30 : decode cX2_mostCancelling 30 = .ok (.invokestatic 50, 3) := by decide +kernel
theorem dX2_mostCancelling_33 : decode cX2_mostCancelling 33 = .ok (.aload_n 0, 1) := by decide +kernel
theorem dX2_mostCancelling_34 : decode cX2_mostCancelling 34 = .ok (.getfield 25, 3) := by decide +kernel
theorem dX2_mostCancelling_37 : decode cX2_mostCancelling 37 = .ok (.getfield 53, 3) := by decide +kernel
theorem dX2_mostCancelling_40 : decode cX2_mostCancelling 40 = .ok (.iload_n 2, 1) := by decide +kernel
theorem dX2_mostCancelling_41 : decode cX2_mostCancelling 41 = .ok (.iaload, 1) := by decide +kernel
theorem dX2_mostCancelling_42 : decode cX2_mostCancelling 42 = .ok (.invokestatic 50, 3) := by decide +kernel
theorem dX2_mostCancelling_45 : decode cX2_mostCancelling 45 = .ok (.isub, 1) := by decide +kernel
theorem dX2_mostCancelling_46 : decode cX2_mostCancelling 46 = .ok (.iastore, 1) := by decide +kernel
theorem dX2_mostCancelling_47 : decode cX2_mostCancelling 47 = .ok (.iinc 2 1, 3) := by decide +kernel
theorem dX2_mostCancelling_50 : decode cX2_mostCancelling 50 = .ok (.goto (-40), 3) := by decide +kernel
theorem dX2_mostCancelling_53 : decode cX2_mostCancelling 53 = .ok (.aload_n 0, 1) := by decide +kernel
theorem dX2_mostCancelling_54 : decode cX2_mostCancelling 54 = .ok (.iload_n 1, 1) := by decide +kernel
theorem dX2_mostCancelling_55 : decode cX2_mostCancelling 55 = .ok (.invokevirtual 56, 3) := by decide +kernel
theorem dX2_mostCancelling_58 : decode cX2_mostCancelling 58 = .ok (.iconst 0, 1) := by decide +kernel
theorem dX2_mostCancelling_59 : decode cX2_mostCancelling 59 = .ok (.istore_n 2, 1) := by decide +kernel
theorem dX2_mostCancelling_60 : decode cX2_mostCancelling 60 = .ok (.iconst 1, 1) := by decide +kernel
theorem dX2_mostCancelling_61 : decode cX2_mostCancelling 61 = .ok (.istore_n 3, 1) := by decide +kernel
theorem dX2_mostCancelling_62 : decode cX2_mostCancelling 62 = .ok (.iload_n 3, 1) := by decide +kernel
theorem dX2_mostCancelling_63 : decode cX2_mostCancelling 63 = .ok (.sipush 4096, 3) := by decide +kernel
theorem dX2_mostCancelling_66 : decode cX2_mostCancelling 66 = .ok (.if_icmp .ge 39, 3) := by decide +kernel
theorem dX2_mostCancelling_69 : decode cX2_mostCancelling 69 = .ok (.iload_n 3, 1) := by decide +kernel
theorem dX2_mostCancelling_70 : decode cX2_mostCancelling 70 = .ok (.iload_n 1, 1) := by decide +kernel
theorem dX2_mostCancelling_71 : decode cX2_mostCancelling 71 = .ok (.iconst (-1), 1) := by decide +kernel
theorem dX2_mostCancelling_72 : decode cX2_mostCancelling 72 = .ok (.ixor, 1) := by decide +kernel
theorem dX2_mostCancelling_73 : decode cX2_mostCancelling 73 = .ok (.iand, 1) := by decide +kernel
theorem dX2_mostCancelling_74 : decode cX2_mostCancelling 74 = .ok (.ifCond .ne 25, 3) := by decide +kernel
theorem dX2_mostCancelling_77 : decode cX2_mostCancelling 77 = .ok (.aload_n 0, 1) := by decide +kernel
theorem dX2_mostCancelling_78 : decode cX2_mostCancelling 78 = .ok (.getfield 15, 3) := by decide +kernel
theorem dX2_mostCancelling_81 : decode cX2_mostCancelling 81 = .ok (.iload_n 3, 1) := by decide +kernel
theorem dX2_mostCancelling_82 : decode cX2_mostCancelling 82 = .ok (.iaload, 1) := by decide +kernel
theorem dX2_mostCancelling_83 : decode cX2_mostCancelling 83 = .ok (.ifCond .ne 16, 3) := by decide +kernel
theorem dX2_mostCancelling_86 : decode cX2_mostCancelling 86 = .ok (.iload_n 3, 1) := by decide +kernel
theorem dX2_mostCancelling_87 : decode cX2_mostCancelling 87 = .ok (.invokestatic 33, 3) := by decide +kernel
theorem dX2_mostCancelling_90 : decode cX2_mostCancelling 90 = .ok (.iload_n 2, 1) := by decide +kernel
theorem dX2_mostCancelling_91 : decode cX2_mostCancelling 91 = .ok (.invokestatic 33, 3) := by decide +kernel
theorem dX2_mostCancelling_94 : decode cX2_mostCancelling 94 = .ok (.if_icmp .le 5, 3) := by decide +kernel
theorem dX2_mostCancelling_97 : decode cX2_mostCancelling 97 = .ok (.iload_n 3, 1) := by decide +kernel
theorem dX2_mostCancelling_98 : decode cX2_mostCancelling 98 = .ok (.istore_n 2, 1) := by decide +kernel
theorem dX2_mostCancelling_99 : decode cX2_mostCancelling 99 = .ok (.iinc 3 1, 3) := by decide +kernel
theorem dX2_mostCancelling_102 : decode cX2_mostCancelling 102 = .ok (.goto (-40), 3) := by decide +kernel
theorem dX2_mostCancelling_105 : decode cX2_mostCancelling 105 = .ok (.iload_n 2, 1) := by decide +kernel
theorem dX2_mostCancelling_106 : decode cX2_mostCancelling 106 = .ok (.ireturn, 1) := by decide +kernel
theorem dX2_heaviestFed_0 : decode cX2_heaviestFed 0 = .ok (.aload_n 0, 1) := by decide +kernel
theorem dX2_heaviestFed_1 : decode cX2_heaviestFed 1 = .ok (.getfield 29, 3) := by decide +kernel
theorem dX2_heaviestFed_4 : decode cX2_heaviestFed 4 = .ok (.invokevirtual 39, 3) := by decide +kernel
theorem dX2_heaviestFed_7 : decode cX2_heaviestFed 7 = .ok (.istore_n 2, 1) := by decide +kernel
theorem dX2_heaviestFed_8 : decode cX2_heaviestFed 8 = .ok (.aload_n 0, 1) := by decide +kernel
theorem dX2_heaviestFed_9 : decode cX2_heaviestFed 9 = .ok (.getfield 29, 3) := by decide +kernel
theorem dX2_heaviestFed_12 : decode cX2_heaviestFed 12 = .ok (.invokevirtual 60, 3) := by decide +kernel
theorem dX2_heaviestFed_15 : decode cX2_heaviestFed 15 = .ok (.iconst 0, 1) := by decide +kernel
theorem dX2_heaviestFed_16 : decode cX2_heaviestFed 16 = .ok (.istore_n 3, 1) := by decide +kernel
theorem dX2_heaviestFed_17 : decode cX2_heaviestFed 17 = .ok (.iload_n 3, 1) := by decide +kernel
theorem dX2_heaviestFed_18 : decode cX2_heaviestFed 18 = .ok (.bipush 12, 2) := by decide +kernel
theorem dX2_heaviestFed_20 : decode cX2_heaviestFed 20 = .ok (.if_icmp .ge 38, 3) := by decide +kernel
theorem dX2_heaviestFed_23 : decode cX2_heaviestFed 23 = .ok (.aload_n 0, 1) := by decide +kernel
theorem dX2_heaviestFed_24 : decode cX2_heaviestFed 24 = .ok (.getfield 9, 3) := by decide +kernel
theorem dX2_heaviestFed_27 : decode cX2_heaviestFed 27 = .ok (.iload_n 3, 1) := by decide +kernel
theorem dX2_heaviestFed_28 : decode cX2_heaviestFed 28 = .ok (.aload_n 0, 1) := by decide +kernel
theorem dX2_heaviestFed_29 : decode cX2_heaviestFed 29 = .ok (.getfield 29, 3) := by decide +kernel
theorem dX2_heaviestFed_32 : decode cX2_heaviestFed 32 = .ok (.getfield 63, 3) := by decide +kernel
theorem dX2_heaviestFed_35 : decode cX2_heaviestFed 35 = .ok (.iload_n 3, 1) := by decide +kernel
theorem dX2_heaviestFed_36 : decode cX2_heaviestFed 36 = .ok (.iaload, 1) := by decide +kernel
theorem dX2_heaviestFed_37 : decode cX2_heaviestFed 37 = .ok (.sipush 1024, 3) := by decide +kernel
theorem dX2_heaviestFed_40 : decode cX2_heaviestFed 40 = .ok (.imul, 1) := by decide +kernel
theorem dX2_heaviestFed_41 : decode cX2_heaviestFed 41 = .ok (.aload_n 0, 1) := by decide +kernel
theorem dX2_heaviestFed_42 : decode cX2_heaviestFed 42 = .ok (.getfield 29, 3) := by decide +kernel
theorem dX2_heaviestFed_45 : decode cX2_heaviestFed 45 = .ok (.getfield 66, 3) := by decide +kernel
theorem dX2_heaviestFed_48 : decode cX2_heaviestFed 48 = .ok (.iload_n 3, 1) := by decide +kernel
theorem dX2_heaviestFed_49 : decode cX2_heaviestFed 49 = .ok (.iaload, 1) := by decide +kernel
theorem dX2_heaviestFed_50 : decode cX2_heaviestFed 50 = .ok (.iadd, 1) := by decide +kernel
theorem dX2_heaviestFed_51 : decode cX2_heaviestFed 51 = .ok (.iastore, 1) := by decide +kernel
theorem dX2_heaviestFed_52 : decode cX2_heaviestFed 52 = .ok (.iinc 3 1, 3) := by decide +kernel
theorem dX2_heaviestFed_55 : decode cX2_heaviestFed 55 = .ok (.goto (-38), 3) := by decide +kernel
theorem dX2_heaviestFed_58 : decode cX2_heaviestFed 58 = .ok (.aload_n 0, 1) := by decide +kernel
theorem dX2_heaviestFed_59 : decode cX2_heaviestFed 59 = .ok (.iload_n 2, 1) := by decide +kernel
theorem dX2_heaviestFed_60 : decode cX2_heaviestFed 60 = .ok (.invokevirtual 56, 3) := by decide +kernel
theorem dX2_heaviestFed_63 : decode cX2_heaviestFed 63 = .ok (.iconst 0, 1) := by decide +kernel
theorem dX2_heaviestFed_64 : decode cX2_heaviestFed 64 = .ok (.istore_n 3, 1) := by decide +kernel
theorem dX2_heaviestFed_65 : decode cX2_heaviestFed 65 = .ok (.iconst 1, 1) := by decide +kernel
theorem dX2_heaviestFed_66 : decode cX2_heaviestFed 66 = .ok (.istore 4, 2) := by decide +kernel
theorem dX2_heaviestFed_68 : decode cX2_heaviestFed 68 = .ok (.iload 4, 2) := by decide +kernel
theorem dX2_heaviestFed_70 : decode cX2_heaviestFed 70 = .ok (.sipush 4096, 3) := by decide +kernel
theorem dX2_heaviestFed_73 : decode cX2_heaviestFed 73 = .ok (.if_icmp .ge 46, 3) := by decide +kernel
theorem dX2_heaviestFed_76 : decode cX2_heaviestFed 76 = .ok (.iload 4, 2) := by decide +kernel
theorem dX2_heaviestFed_78 : decode cX2_heaviestFed 78 = .ok (.iload_n 2, 1) := by decide +kernel
theorem dX2_heaviestFed_79 : decode cX2_heaviestFed 79 = .ok (.iconst (-1), 1) := by decide +kernel
theorem dX2_heaviestFed_80 : decode cX2_heaviestFed 80 = .ok (.ixor, 1) := by decide +kernel
theorem dX2_heaviestFed_81 : decode cX2_heaviestFed 81 = .ok (.iand, 1) := by decide +kernel
theorem dX2_heaviestFed_82 : decode cX2_heaviestFed 82 = .ok (.ifCond .ne 31, 3) := by decide +kernel
theorem dX2_heaviestFed_85 : decode cX2_heaviestFed 85 = .ok (.aload_n 0, 1) := by decide +kernel
theorem dX2_heaviestFed_86 : decode cX2_heaviestFed 86 = .ok (.getfield 15, 3) := by decide +kernel
theorem dX2_heaviestFed_89 : decode cX2_heaviestFed 89 = .ok (.iload 4, 2) := by decide +kernel
theorem dX2_heaviestFed_91 : decode cX2_heaviestFed 91 = .ok (.iaload, 1) := by decide +kernel
theorem dX2_heaviestFed_92 : decode cX2_heaviestFed 92 = .ok (.sipush 1024, 3) := by decide +kernel
theorem dX2_heaviestFed_95 : decode cX2_heaviestFed 95 = .ok (.irem, 1) := by decide +kernel
theorem dX2_heaviestFed_96 : decode cX2_heaviestFed 96 = .ok (.iload_n 1, 1) := by decide +kernel
theorem dX2_heaviestFed_97 : decode cX2_heaviestFed 97 = .ok (.if_icmp .gt 16, 3) := by decide +kernel
theorem dX2_heaviestFed_100 : decode cX2_heaviestFed 100 = .ok (.aload_n 0, 1) := by decide +kernel
theorem dX2_heaviestFed_101 : decode cX2_heaviestFed 101 = .ok (.iload 4, 2) := by decide +kernel
theorem dX2_heaviestFed_103 : decode cX2_heaviestFed 103 = .ok (.iload_n 3, 1) := by decide +kernel
theorem dX2_heaviestFed_104 : decode cX2_heaviestFed 104 = .ok (.invokevirtual 69, 3) := by decide +kernel
theorem dX2_heaviestFed_107 : decode cX2_heaviestFed 107 = .ok (.ifCond .eq 6, 3) := by decide +kernel
theorem dX2_heaviestFed_110 : decode cX2_heaviestFed 110 = .ok (.iload 4, 2) := by decide +kernel
theorem dX2_heaviestFed_112 : decode cX2_heaviestFed 112 = .ok (.istore_n 3, 1) := by decide +kernel
theorem dX2_heaviestFed_113 : decode cX2_heaviestFed 113 = .ok (.iinc 4 1, 3) := by decide +kernel
theorem dX2_heaviestFed_116 : decode cX2_heaviestFed 116 = .ok (.goto (-48), 3) := by decide +kernel
theorem dX2_heaviestFed_119 : decode cX2_heaviestFed 119 = .ok (.iload_n 3, 1) := by decide +kernel
theorem dX2_heaviestFed_120 : decode cX2_heaviestFed 120 = .ok (.ireturn, 1) := by decide +kernel
theorem dX2_isBetter_0 : decode cX2_isBetter 0 = .ok (.iload_n 1, 1) := by decide +kernel
theorem dX2_isBetter_1 : decode cX2_isBetter 1 = .ok (.ifCond .lt 21, 3) := by decide +kernel
theorem dX2_isBetter_4 : decode cX2_isBetter 4 = .ok (.iload_n 1, 1) := by decide +kernel
theorem dX2_isBetter_5 : decode cX2_isBetter 5 = .ok (.sipush 4096, 3) := by decide +kernel
theorem dX2_isBetter_8 : decode cX2_isBetter 8 = .ok (.if_icmp .ge 14, 3) := by decide +kernel
theorem dX2_isBetter_11 : decode cX2_isBetter 11 = .ok (.iload_n 2, 1) := by decide +kernel
theorem dX2_isBetter_12 : decode cX2_isBetter 12 = .ok (.ifCond .lt 10, 3) := by decide +kernel
theorem dX2_isBetter_15 : decode cX2_isBetter 15 = .ok (.iload_n 2, 1) := by decide +kernel
theorem dX2_isBetter_16 : decode cX2_isBetter 16 = .ok (.sipush 4096, 3) := by decide +kernel
theorem dX2_isBetter_19 : decode cX2_isBetter 19 = .ok (.if_icmp .lt 5, 3) := by decide +kernel
theorem dX2_isBetter_22 : decode cX2_isBetter 22 = .ok (.iconst 0, 1) := by decide +kernel
theorem dX2_isBetter_23 : decode cX2_isBetter 23 = .ok (.ireturn, 1) := by decide +kernel
theorem dX2_isBetter_24 : decode cX2_isBetter 24 = .ok (.aload_n 0, 1) := by decide +kernel
theorem dX2_isBetter_25 : decode cX2_isBetter 25 = .ok (.getfield 15, 3) := by decide +kernel
theorem dX2_isBetter_28 : decode cX2_isBetter 28 = .ok (.iload_n 1, 1) := by decide +kernel
theorem dX2_isBetter_29 : decode cX2_isBetter 29 = .ok (.iaload, 1) := by decide +kernel
theorem dX2_isBetter_30 : decode cX2_isBetter 30 = .ok (.sipush 1024, 3) := by decide +kernel
theorem dX2_isBetter_33 : decode cX2_isBetter 33 = .ok (.idiv, 1) := by decide +kernel
theorem dX2_isBetter_34 : decode cX2_isBetter 34 = .ok (.aload_n 0, 1) := by decide +kernel
theorem dX2_isBetter_35 : decode cX2_isBetter 35 = .ok (.getfield 15, 3) := by decide +kernel
theorem dX2_isBetter_38 : decode cX2_isBetter 38 = .ok (.iload_n 2, 1) := by decide +kernel
theorem dX2_isBetter_39 : decode cX2_isBetter 39 = .ok (.iaload, 1) := by decide +kernel
theorem dX2_isBetter_40 : decode cX2_isBetter 40 = .ok (.sipush 1024, 3) := by decide +kernel
theorem dX2_isBetter_43 : decode cX2_isBetter 43 = .ok (.idiv, 1) := by decide +kernel
theorem dX2_isBetter_44 : decode cX2_isBetter 44 = .ok (.isub, 1) := by decide +kernel
theorem dX2_isBetter_45 : decode cX2_isBetter 45 = .ok (.istore_n 3, 1) := by decide +kernel
theorem dX2_isBetter_46 : decode cX2_isBetter 46 = .ok (.iload_n 3, 1) := by decide +kernel
theorem dX2_isBetter_47 : decode cX2_isBetter 47 = .ok (.ifCond .gt 18, 3) := by decide +kernel
theorem dX2_isBetter_50 : decode cX2_isBetter 50 = .ok (.iload_n 3, 1) := by decide +kernel
theorem dX2_isBetter_51 : decode cX2_isBetter 51 = .ok (.ifCond .ne 18, 3) := by decide +kernel
theorem dX2_isBetter_54 : decode cX2_isBetter 54 = .ok (.iload_n 1, 1) := by decide +kernel
theorem dX2_isBetter_55 : decode cX2_isBetter 55 = .ok (.invokestatic 33, 3) := by decide +kernel
theorem dX2_isBetter_58 : decode cX2_isBetter 58 = .ok (.iload_n 2, 1) := by decide +kernel
theorem dX2_isBetter_59 : decode cX2_isBetter 59 = .ok (.invokestatic 33, 3) := by decide +kernel
theorem dX2_isBetter_62 : decode cX2_isBetter 62 = .ok (.if_icmp .ge 7, 3) := by decide +kernel
theorem dX2_isBetter_65 : decode cX2_isBetter 65 = .ok (.iconst 1, 1) := by decide +kernel
theorem dX2_isBetter_66 : decode cX2_isBetter 66 = .ok (.goto 4, 3) := by decide +kernel
theorem dX2_isBetter_69 : decode cX2_isBetter 69 = .ok (.iconst 0, 1) := by decide +kernel
theorem dX2_isBetter_70 : decode cX2_isBetter 70 = .ok (.ireturn, 1) := by decide +kernel
theorem dX2_findPayments_0 : decode cX2_findPayments 0 = .ok (.aload_n 0, 1) := by decide +kernel
theorem dX2_findPayments_1 : decode cX2_findPayments 1 = .ok (.iconst 0, 1) := by decide +kernel
theorem dX2_findPayments_2 : decode cX2_findPayments 2 = .ok (.putfield 18, 3) := by decide +kernel
theorem dX2_findPayments_5 : decode cX2_findPayments 5 = .ok (.aload_n 0, 1) := by decide +kernel
theorem dX2_findPayments_6 : decode cX2_findPayments 6 = .ok (.iconst (-1), 1) := by decide +kernel
theorem dX2_findPayments_7 : decode cX2_findPayments 7 = .ok (.putfield 22, 3) := by decide +kernel
theorem dX2_findPayments_10 : decode cX2_findPayments 10 = .ok (.iload_n 1, 1) := by decide +kernel
theorem dX2_findPayments_11 : decode cX2_findPayments 11 = .ok (.ifCond .lt 20, 3) := by decide +kernel
theorem dX2_findPayments_14 : decode cX2_findPayments 14 = .ok (.iload_n 1, 1) := by decide +kernel
theorem dX2_findPayments_15 : decode cX2_findPayments 15 = .ok (.bipush 12, 2) := by decide +kernel
theorem dX2_findPayments_17 : decode cX2_findPayments 17 = .ok (.if_icmp .ge 14, 3) := by decide +kernel
theorem dX2_findPayments_20 : decode cX2_findPayments 20 = .ok (.aload_n 0, 1) := by decide +kernel
theorem dX2_findPayments_21 : decode cX2_findPayments 21 = .ok (.getfield 29, 3) := by decide +kernel
theorem dX2_findPayments_24 : decode cX2_findPayments 24 = .ok (.iload_n 1, 1) := by decide +kernel
theorem dX2_findPayments_25 : decode cX2_findPayments 25 = .ok (.invokevirtual 73, 3) := by decide +kernel
theorem dX2_findPayments_28 : decode cX2_findPayments 28 = .ok (.ifCond .ne 4, 3) := by decide +kernel
theorem dX2_findPayments_31 : decode cX2_findPayments 31 = .ok (.return_, 1) := by decide +kernel
theorem dX2_findPayments_32 : decode cX2_findPayments 32 = .ok (.aload_n 0, 1) := by decide +kernel
theorem dX2_findPayments_33 : decode cX2_findPayments 33 = .ok (.getfield 29, 3) := by decide +kernel
theorem dX2_findPayments_36 : decode cX2_findPayments 36 = .ok (.getfield 63, 3) := by decide +kernel
theorem dX2_findPayments_39 : decode cX2_findPayments 39 = .ok (.iconst 0, 1) := by decide +kernel
theorem dX2_findPayments_40 : decode cX2_findPayments 40 = .ok (.aload_n 0, 1) := by decide +kernel
theorem dX2_findPayments_41 : decode cX2_findPayments 41 = .ok (.getfield 9, 3) := by decide +kernel
theorem dX2_findPayments_44 : decode cX2_findPayments 44 = .ok (.iconst 0, 1) := by decide +kernel
theorem dX2_findPayments_45 : decode cX2_findPayments 45 = .ok (.bipush 12, 2) := by decide +kernel
theorem dX2_findPayments_47 : decode cX2_findPayments 47 = .ok (.invokestatic 77, 3) := by decide +kernel
theorem dX2_findPayments_50 : decode cX2_findPayments 50 = .ok (.aload_n 0, 1) := by decide +kernel
theorem dX2_findPayments_51 : decode cX2_findPayments 51 = .ok (.getfield 29, 3) := by decide +kernel
theorem dX2_findPayments_54 : decode cX2_findPayments 54 = .ok (.invokevirtual 39, 3) := by decide +kernel
theorem dX2_findPayments_57 : decode cX2_findPayments 57 = .ok (.iconst 1, 1) := by decide +kernel
theorem dX2_findPayments_58 : decode cX2_findPayments 58 = .ok (.iload_n 1, 1) := by decide +kernel
theorem dX2_findPayments_59 : decode cX2_findPayments 59 = .ok (.ishl, 1) := by decide +kernel
theorem dX2_findPayments_60 : decode cX2_findPayments 60 = .ok (.iconst (-1), 1) := by decide +kernel
theorem dX2_findPayments_61 : decode cX2_findPayments 61 = .ok (.ixor, 1) := by decide +kernel
theorem dX2_findPayments_62 : decode cX2_findPayments 62 = .ok (.iand, 1) := by decide +kernel
theorem dX2_findPayments_63 : decode cX2_findPayments 63 = .ok (.istore_n 2, 1) := by decide +kernel
theorem dX2_findPayments_64 : decode cX2_findPayments 64 = .ok (.aload_n 0, 1) := by decide +kernel
theorem dX2_findPayments_65 : decode cX2_findPayments 65 = .ok (.iload_n 2, 1) := by decide +kernel
theorem dX2_findPayments_66 : decode cX2_findPayments 66 = .ok (.invokevirtual 56, 3) := by decide +kernel
theorem dX2_findPayments_69 : decode cX2_findPayments 69 = .ok (.iconst 1, 1) := by decide +kernel
theorem dX2_findPayments_70 : decode cX2_findPayments 70 = .ok (.istore_n 3, 1) := by decide +kernel
theorem dX2_findPayments_71 : decode cX2_findPayments 71 = .ok (.iload_n 3, 1) := by decide +kernel
theorem dX2_findPayments_72 : decode cX2_findPayments 72 = .ok (.sipush 4096, 3) := by decide +kernel
theorem dX2_findPayments_75 : decode cX2_findPayments 75 = .ok (.if_icmp .ge 40, 3) := by decide +kernel
theorem dX2_findPayments_78 : decode cX2_findPayments 78 = .ok (.iload_n 3, 1) := by decide +kernel
theorem dX2_findPayments_79 : decode cX2_findPayments 79 = .ok (.iload_n 2, 1) := by decide +kernel
theorem dX2_findPayments_80 : decode cX2_findPayments 80 = .ok (.iconst (-1), 1) := by decide +kernel
theorem dX2_findPayments_81 : decode cX2_findPayments 81 = .ok (.ixor, 1) := by decide +kernel
theorem dX2_findPayments_82 : decode cX2_findPayments 82 = .ok (.iand, 1) := by decide +kernel
theorem dX2_findPayments_83 : decode cX2_findPayments 83 = .ok (.ifCond .ne 26, 3) := by decide +kernel
theorem dX2_findPayments_86 : decode cX2_findPayments 86 = .ok (.aload_n 0, 1) := by decide +kernel
theorem dX2_findPayments_87 : decode cX2_findPayments 87 = .ok (.getfield 15, 3) := by decide +kernel
theorem dX2_findPayments_90 : decode cX2_findPayments 90 = .ok (.iload_n 3, 1) := by decide +kernel
theorem dX2_findPayments_91 : decode cX2_findPayments 91 = .ok (.iaload, 1) := by decide +kernel
theorem dX2_findPayments_92 : decode cX2_findPayments 92 = .ok (.aload_n 0, 1) := by decide +kernel
theorem dX2_findPayments_93 : decode cX2_findPayments 93 = .ok (.getfield 29, 3) := by decide +kernel
theorem dX2_findPayments_96 : decode cX2_findPayments 96 = .ok (.getfield 63, 3) := by decide +kernel
theorem dX2_findPayments_99 : decode cX2_findPayments 99 = .ok (.iload_n 1, 1) := by decide +kernel
theorem dX2_findPayments_100 : decode cX2_findPayments 100 = .ok (.iaload, 1) := by decide +kernel
theorem dX2_findPayments_101 : decode cX2_findPayments 101 = .ok (.if_icmp .ne 8, 3) := by decide +kernel
theorem dX2_findPayments_104 : decode cX2_findPayments 104 = .ok (.aload_n 0, 1) := by decide +kernel
theorem dX2_findPayments_105 : decode cX2_findPayments 105 = .ok (.iload_n 3, 1) := by decide +kernel
theorem dX2_findPayments_106 : decode cX2_findPayments 106 = .ok (.invokevirtual 83, 3) := by decide +kernel
theorem dX2_findPayments_109 : decode cX2_findPayments 109 = .ok (.iinc 3 1, 3) := by decide +kernel
theorem dX2_findPayments_112 : decode cX2_findPayments 112 = .ok (.goto (-41), 3) := by decide +kernel
theorem dX2_findPayments_115 : decode cX2_findPayments 115 = .ok (.return_, 1) := by decide +kernel
theorem dX2_notePayment_0 : decode cX2_notePayment 0 = .ok (.aload_n 0, 1) := by decide +kernel
theorem dX2_notePayment_1 : decode cX2_notePayment 1 = .ok (.dup, 1) := by decide +kernel
theorem dX2_notePayment_2 : decode cX2_notePayment 2 = .ok (.getfield 18, 3) := by decide +kernel
theorem dX2_notePayment_5 : decode cX2_notePayment 5 = .ok (.iconst 1, 1) := by decide +kernel
theorem dX2_notePayment_6 : decode cX2_notePayment 6 = .ok (.iadd, 1) := by decide +kernel
theorem dX2_notePayment_7 : decode cX2_notePayment 7 = .ok (.putfield 18, 3) := by decide +kernel
theorem dX2_notePayment_10 : decode cX2_notePayment 10 = .ok (.aload_n 0, 1) := by decide +kernel
theorem dX2_notePayment_11 : decode cX2_notePayment 11 = .ok (.getfield 22, 3) := by decide +kernel
theorem dX2_notePayment_14 : decode cX2_notePayment 14 = .ok (.iconst (-1), 1) := by decide +kernel
theorem dX2_notePayment_15 : decode cX2_notePayment 15 = .ok (.if_icmp .eq 17, 3) := by decide +kernel
theorem dX2_notePayment_18 : decode cX2_notePayment 18 = .ok (.iload_n 1, 1) := by decide +kernel
theorem dX2_notePayment_19 : decode cX2_notePayment 19 = .ok (.invokestatic 33, 3) := by decide +kernel
theorem dX2_notePayment_22 : decode cX2_notePayment 22 = .ok (.aload_n 0, 1) := by decide +kernel
theorem dX2_notePayment_23 : decode cX2_notePayment 23 = .ok (.getfield 22, 3) := by decide +kernel
theorem dX2_notePayment_26 : decode cX2_notePayment 26 = .ok (.invokestatic 33, 3) := by decide +kernel
theorem dX2_notePayment_29 : decode cX2_notePayment 29 = .ok (.if_icmp .ge 8, 3) := by decide +kernel
theorem dX2_notePayment_32 : decode cX2_notePayment 32 = .ok (.aload_n 0, 1) := by decide +kernel
theorem dX2_notePayment_33 : decode cX2_notePayment 33 = .ok (.iload_n 1, 1) := by decide +kernel
theorem dX2_notePayment_34 : decode cX2_notePayment 34 = .ok (.putfield 22, 3) := by decide +kernel
theorem dX2_notePayment_37 : decode cX2_notePayment 37 = .ok (.return_, 1) := by decide +kernel
theorem dX3_init_0 : decode cX3_init 0 = .ok (.aload_n 0, 1) := by decide +kernel
theorem dX3_init_1 : decode cX3_init 1 = .ok (.invokespecial 3, 3) := by decide +kernel
theorem dX3_init_4 : decode cX3_init 4 = .ok (.aload_n 0, 1) := by decide +kernel
theorem dX3_init_5 : decode cX3_init 5 = .ok (.bipush 6, 2) := by decide +kernel
theorem dX3_init_7 : decode cX3_init 7 = .ok (.newarray .int, 2) := by decide +kernel
theorem dX3_init_9 : decode cX3_init 9 = .ok (.putfield 9, 3) := by decide +kernel
theorem dX3_init_12 : decode cX3_init 12 = .ok (.aload_n 0, 1) := by decide +kernel
theorem dX3_init_13 : decode cX3_init 13 = .ok (.bipush 6, 2) := by decide +kernel
theorem dX3_init_15 : decode cX3_init 15 = .ok (.newarray .int, 2) := by decide +kernel
theorem dX3_init_17 : decode cX3_init 17 = .ok (.putfield 15, 3) := by decide +kernel
theorem dX3_init_20 : decode cX3_init 20 = .ok (.aload_n 0, 1) := by decide +kernel
theorem dX3_init_21 : decode cX3_init 21 = .ok (.bipush 13, 2) := by decide +kernel
theorem dX3_init_23 : decode cX3_init 23 = .ok (.newarray .int, 2) := by decide +kernel
theorem dX3_init_25 : decode cX3_init 25 = .ok (.putfield 18, 3) := by decide +kernel
theorem dX3_init_28 : decode cX3_init 28 = .ok (.aload_n 0, 1) := by decide +kernel
theorem dX3_init_29 : decode cX3_init 29 = .ok (.bipush 13, 2) := by decide +kernel
theorem dX3_init_31 : decode cX3_init 31 = .ok (.newarray .int, 2) := by decide +kernel
theorem dX3_init_33 : decode cX3_init 33 = .ok (.putfield 21, 3) := by decide +kernel
theorem dX3_init_36 : decode cX3_init 36 = .ok (.aload_n 0, 1) := by decide +kernel
theorem dX3_init_37 : decode cX3_init 37 = .ok (.bipush 13, 2) := by decide +kernel
theorem dX3_init_39 : decode cX3_init 39 = .ok (.newarray .int, 2) := by decide +kernel
theorem dX3_init_41 : decode cX3_init 41 = .ok (.putfield 24, 3) := by decide +kernel
theorem dX3_init_44 : decode cX3_init 44 = .ok (.aload_n 0, 1) := by decide +kernel
theorem dX3_init_45 : decode cX3_init 45 = .ok (.bipush 13, 2) := by decide +kernel
theorem dX3_init_47 : decode cX3_init 47 = .ok (.newarray .int, 2) := by decide +kernel
theorem dX3_init_49 : decode cX3_init 49 = .ok (.putfield 27, 3) := by decide +kernel
theorem dX3_init_52 : decode cX3_init 52 = .ok (.aload_n 0, 1) := by decide +kernel
theorem dX3_init_53 : decode cX3_init 53 = .ok (.bipush 10, 2) := by decide +kernel
theorem dX3_init_55 : decode cX3_init 55 = .ok (.newarray .int, 2) := by decide +kernel
theorem dX3_init_57 : decode cX3_init 57 = .ok (.putfield 30, 3) := by decide +kernel
theorem dX3_init_60 : decode cX3_init 60 = .ok (.aload_n 0, 1) := by decide +kernel
theorem dX3_init_61 : decode cX3_init 61 = .ok (.bipush 10, 2) := by decide +kernel
theorem dX3_init_63 : decode cX3_init 63 = .ok (.newarray .int, 2) := by decide +kernel
theorem dX3_init_65 : decode cX3_init 65 = .ok (.putfield 33, 3) := by decide +kernel
theorem dX3_init_68 : decode cX3_init 68 = .ok (.aload_n 0, 1) := by decide +kernel
theorem dX3_init_69 : decode cX3_init 69 = .ok (.bipush 10, 2) := by decide +kernel
theorem dX3_init_71 : decode cX3_init 71 = .ok (.newarray .int, 2) := by decide +kernel
theorem dX3_init_73 : decode cX3_init 73 = .ok (.putfield 36, 3) := by decide +kernel
theorem dX3_init_76 : decode cX3_init 76 = .ok (.aload_n 0, 1) := by decide +kernel
theorem dX3_init_77 : decode cX3_init 77 = .ok (.bipush 6, 2) := by decide +kernel
theorem dX3_init_79 : decode cX3_init 79 = .ok (.newarray .int, 2) := by decide +kernel
theorem dX3_init_81 : decode cX3_init 81 = .ok (.putfield 39, 3) := by decide +kernel
theorem dX3_init_84 : decode cX3_init 84 = .ok (.aload_n 0, 1) := by decide +kernel
theorem dX3_init_85 : decode cX3_init 85 = .ok (.iconst 0, 1) := by decide +kernel
theorem dX3_init_86 : decode cX3_init 86 = .ok (.putfield 42, 3) := by decide +kernel
theorem dX3_init_89 : decode cX3_init 89 = .ok (.aload_n 0, 1) := by decide +kernel
theorem dX3_init_90 : decode cX3_init 90 = .ok (.iconst 0, 1) := by decide +kernel
theorem dX3_init_91 : decode cX3_init 91 = .ok (.putfield 46, 3) := by decide +kernel
theorem dX3_init_94 : decode cX3_init 94 = .ok (.aload_n 0, 1) := by decide +kernel
theorem dX3_init_95 : decode cX3_init 95 = .ok (.iconst 0, 1) := by decide +kernel
theorem dX3_init_96 : decode cX3_init 96 = .ok (.putfield 49, 3) := by decide +kernel
theorem dX3_init_99 : decode cX3_init 99 = .ok (.return_, 1) := by decide +kernel
theorem dX3_take_0 : decode cX3_take 0 = .ok (.aload_n 1, 1) := by decide +kernel
theorem dX3_take_1 : decode cX3_take 1 = .ok (.getfield 9, 3) := by decide +kernel
theorem dX3_take_4 : decode cX3_take 4 = .ok (.iconst 0, 1) := by decide +kernel
theorem dX3_take_5 : decode cX3_take 5 = .ok (.aload_n 0, 1) := by decide +kernel
theorem dX3_take_6 : decode cX3_take 6 = .ok (.getfield 9, 3) := by decide +kernel
theorem dX3_take_9 : decode cX3_take 9 = .ok (.iconst 0, 1) := by decide +kernel
theorem dX3_take_10 : decode cX3_take 10 = .ok (.bipush 6, 2) := by decide +kernel
theorem dX3_take_12 : decode cX3_take 12 = .ok (.invokestatic 52, 3) := by decide +kernel
theorem dX3_take_15 : decode cX3_take 15 = .ok (.aload_n 1, 1) := by decide +kernel
theorem dX3_take_16 : decode cX3_take 16 = .ok (.getfield 15, 3) := by decide +kernel
theorem dX3_take_19 : decode cX3_take 19 = .ok (.iconst 0, 1) := by decide +kernel
theorem dX3_take_20 : decode cX3_take 20 = .ok (.aload_n 0, 1) := by decide +kernel
theorem dX3_take_21 : decode cX3_take 21 = .ok (.getfield 15, 3) := by decide +kernel
theorem dX3_take_24 : decode cX3_take 24 = .ok (.iconst 0, 1) := by decide +kernel
theorem dX3_take_25 : decode cX3_take 25 = .ok (.bipush 6, 2) := by decide +kernel
theorem dX3_take_27 : decode cX3_take 27 = .ok (.invokestatic 52, 3) := by decide +kernel
theorem dX3_take_30 : decode cX3_take 30 = .ok (.aload_n 1, 1) := by decide +kernel
theorem dX3_take_31 : decode cX3_take 31 = .ok (.getfield 18, 3) := by decide +kernel
theorem dX3_take_34 : decode cX3_take 34 = .ok (.iconst 0, 1) := by decide +kernel
theorem dX3_take_35 : decode cX3_take 35 = .ok (.aload_n 0, 1) := by decide +kernel
theorem dX3_take_36 : decode cX3_take 36 = .ok (.getfield 18, 3) := by decide +kernel
theorem dX3_take_39 : decode cX3_take 39 = .ok (.iconst 0, 1) := by decide +kernel
theorem dX3_take_40 : decode cX3_take 40 = .ok (.bipush 13, 2) := by decide +kernel
theorem dX3_take_42 : decode cX3_take 42 = .ok (.invokestatic 52, 3) := by decide +kernel
theorem dX3_take_45 : decode cX3_take 45 = .ok (.aload_n 1, 1) := by decide +kernel
theorem dX3_take_46 : decode cX3_take 46 = .ok (.getfield 21, 3) := by decide +kernel
theorem dX3_take_49 : decode cX3_take 49 = .ok (.iconst 0, 1) := by decide +kernel
theorem dX3_take_50 : decode cX3_take 50 = .ok (.aload_n 0, 1) := by decide +kernel
theorem dX3_take_51 : decode cX3_take 51 = .ok (.getfield 21, 3) := by decide +kernel
theorem dX3_take_54 : decode cX3_take 54 = .ok (.iconst 0, 1) := by decide +kernel
theorem dX3_take_55 : decode cX3_take 55 = .ok (.bipush 13, 2) := by decide +kernel
theorem dX3_take_57 : decode cX3_take 57 = .ok (.invokestatic 52, 3) := by decide +kernel
theorem dX3_take_60 : decode cX3_take 60 = .ok (.aload_n 1, 1) := by decide +kernel
theorem dX3_take_61 : decode cX3_take 61 = .ok (.getfield 24, 3) := by decide +kernel
theorem dX3_take_64 : decode cX3_take 64 = .ok (.iconst 0, 1) := by decide +kernel
theorem dX3_take_65 : decode cX3_take 65 = .ok (.aload_n 0, 1) := by decide +kernel
theorem dX3_take_66 : decode cX3_take 66 = .ok (.getfield 24, 3) := by decide +kernel
theorem dX3_take_69 : decode cX3_take 69 = .ok (.iconst 0, 1) := by decide +kernel
theorem dX3_take_70 : decode cX3_take 70 = .ok (.bipush 13, 2) := by decide +kernel
theorem dX3_take_72 : decode cX3_take 72 = .ok (.invokestatic 52, 3) := by decide +kernel
theorem dX3_take_75 : decode cX3_take 75 = .ok (.aload_n 1, 1) := by decide +kernel
theorem dX3_take_76 : decode cX3_take 76 = .ok (.getfield 27, 3) := by decide +kernel
theorem dX3_take_79 : decode cX3_take 79 = .ok (.iconst 0, 1) := by decide +kernel
theorem dX3_take_80 : decode cX3_take 80 = .ok (.aload_n 0, 1) := by decide +kernel
theorem dX3_take_81 : decode cX3_take 81 = .ok (.getfield 27, 3) := by decide +kernel
theorem dX3_take_84 : decode cX3_take 84 = .ok (.iconst 0, 1) := by decide +kernel
theorem dX3_take_85 : decode cX3_take 85 = .ok (.bipush 13, 2) := by decide +kernel
theorem dX3_take_87 : decode cX3_take 87 = .ok (.invokestatic 52, 3) := by decide +kernel
theorem dX3_take_90 : decode cX3_take 90 = .ok (.aload_n 1, 1) := by decide +kernel
theorem dX3_take_91 : decode cX3_take 91 = .ok (.getfield 30, 3) := by decide +kernel
theorem dX3_take_94 : decode cX3_take 94 = .ok (.iconst 0, 1) := by decide +kernel
theorem dX3_take_95 : decode cX3_take 95 = .ok (.aload_n 0, 1) := by decide +kernel
theorem dX3_take_96 : decode cX3_take 96 = .ok (.getfield 30, 3) := by decide +kernel
theorem dX3_take_99 : decode cX3_take 99 = .ok (.iconst 0, 1) := by decide +kernel
theorem dX3_take_100 : decode cX3_take 100 = .ok (.bipush 10, 2) := by decide +kernel
theorem dX3_take_102 : decode cX3_take 102 = .ok (.invokestatic 52, 3) := by decide +kernel
theorem dX3_take_105 : decode cX3_take 105 = .ok (.aload_n 1, 1) := by decide +kernel
theorem dX3_take_106 : decode cX3_take 106 = .ok (.getfield 33, 3) := by decide +kernel
theorem dX3_take_109 : decode cX3_take 109 = .ok (.iconst 0, 1) := by decide +kernel
theorem dX3_take_110 : decode cX3_take 110 = .ok (.aload_n 0, 1) := by decide +kernel
theorem dX3_take_111 : decode cX3_take 111 = .ok (.getfield 33, 3) := by decide +kernel
theorem dX3_take_114 : decode cX3_take 114 = .ok (.iconst 0, 1) := by decide +kernel
theorem dX3_take_115 : decode cX3_take 115 = .ok (.bipush 10, 2) := by decide +kernel
theorem dX3_take_117 : decode cX3_take 117 = .ok (.invokestatic 52, 3) := by decide +kernel
theorem dX3_take_120 : decode cX3_take 120 = .ok (.aload_n 1, 1) := by decide +kernel
theorem dX3_take_121 : decode cX3_take 121 = .ok (.getfield 36, 3) := by decide +kernel
theorem dX3_take_124 : decode cX3_take 124 = .ok (.iconst 0, 1) := by decide +kernel
theorem dX3_take_125 : decode cX3_take 125 = .ok (.aload_n 0, 1) := by decide +kernel
theorem dX3_take_126 : decode cX3_take 126 = .ok (.getfield 36, 3) := by decide +kernel
theorem dX3_take_129 : decode cX3_take 129 = .ok (.iconst 0, 1) := by decide +kernel
theorem dX3_take_130 : decode cX3_take 130 = .ok (.bipush 10, 2) := by decide +kernel
theorem dX3_take_132 : decode cX3_take 132 = .ok (.invokestatic 52, 3) := by decide +kernel
theorem dX3_take_135 : decode cX3_take 135 = .ok (.aload_n 0, 1) := by decide +kernel
theorem dX3_take_136 : decode cX3_take 136 = .ok (.aload_n 1, 1) := by decide +kernel
theorem dX3_take_137 : decode cX3_take 137 = .ok (.getfield 42, 3) := by decide +kernel
theorem dX3_take_140 : decode cX3_take 140 = .ok (.putfield 42, 3) := by decide +kernel
theorem dX3_take_143 : decode cX3_take 143 = .ok (.aload_n 0, 1) := by decide +kernel
theorem dX3_take_144 : decode cX3_take 144 = .ok (.aload_n 1, 1) := by decide +kernel
theorem dX3_take_145 : decode cX3_take 145 = .ok (.getfield 46, 3) := by decide +kernel
theorem dX3_take_148 : decode cX3_take 148 = .ok (.putfield 46, 3) := by decide +kernel
theorem dX3_take_151 : decode cX3_take 151 = .ok (.aload_n 0, 1) := by decide +kernel
theorem dX3_take_152 : decode cX3_take 152 = .ok (.aload_n 1, 1) := by decide +kernel
theorem dX3_take_153 : decode cX3_take 153 = .ok (.getfield 49, 3) := by decide +kernel
theorem dX3_take_156 : decode cX3_take 156 = .ok (.putfield 49, 3) := by decide +kernel
theorem dX3_take_159 : decode cX3_take 159 = .ok (.return_, 1) := by decide +kernel
theorem dX3_clear_0 : decode cX3_clear 0 = .ok (.aload_n 0, 1) := by decide +kernel
theorem dX3_clear_1 : decode cX3_clear 1 = .ok (.getfield 9, 3) := by decide +kernel
theorem dX3_clear_4 : decode cX3_clear 4 = .ok (.iconst 0, 1) := by decide +kernel
theorem dX3_clear_5 : decode cX3_clear 5 = .ok (.invokestatic 58, 3) := by decide +kernel
theorem dX3_clear_8 : decode cX3_clear 8 = .ok (.aload_n 0, 1) := by decide +kernel
theorem dX3_clear_9 : decode cX3_clear 9 = .ok (.getfield 15, 3) := by decide +kernel
theorem dX3_clear_12 : decode cX3_clear 12 = .ok (.iconst 0, 1) := by decide +kernel
theorem dX3_clear_13 : decode cX3_clear 13 = .ok (.invokestatic 58, 3) := by decide +kernel
theorem dX3_clear_16 : decode cX3_clear 16 = .ok (.aload_n 0, 1) := by decide +kernel
theorem dX3_clear_17 : decode cX3_clear 17 = .ok (.getfield 18, 3) := by decide +kernel
theorem dX3_clear_20 : decode cX3_clear 20 = .ok (.iconst 0, 1) := by decide +kernel
theorem dX3_clear_21 : decode cX3_clear 21 = .ok (.invokestatic 58, 3) := by decide +kernel
theorem dX3_clear_24 : decode cX3_clear 24 = .ok (.aload_n 0, 1) := by decide +kernel
theorem dX3_clear_25 : decode cX3_clear 25 = .ok (.getfield 21, 3) := by decide +kernel
theorem dX3_clear_28 : decode cX3_clear 28 = .ok (.iconst 0, 1) := by decide +kernel
theorem dX3_clear_29 : decode cX3_clear 29 = .ok (.invokestatic 58, 3) := by decide +kernel
theorem dX3_clear_32 : decode cX3_clear 32 = .ok (.aload_n 0, 1) := by decide +kernel
theorem dX3_clear_33 : decode cX3_clear 33 = .ok (.getfield 24, 3) := by decide +kernel
theorem dX3_clear_36 : decode cX3_clear 36 = .ok (.iconst 0, 1) := by decide +kernel
theorem dX3_clear_37 : decode cX3_clear 37 = .ok (.invokestatic 58, 3) := by decide +kernel
theorem dX3_clear_40 : decode cX3_clear 40 = .ok (.aload_n 0, 1) := by decide +kernel
theorem dX3_clear_41 : decode cX3_clear 41 = .ok (.getfield 27, 3) := by decide +kernel
theorem dX3_clear_44 : decode cX3_clear 44 = .ok (.iconst 0, 1) := by decide +kernel
theorem dX3_clear_45 : decode cX3_clear 45 = .ok (.invokestatic 58, 3) := by decide +kernel
theorem dX3_clear_48 : decode cX3_clear 48 = .ok (.aload_n 0, 1) := by decide +kernel
theorem dX3_clear_49 : decode cX3_clear 49 = .ok (.iconst 0, 1) := by decide +kernel
theorem dX3_clear_50 : decode cX3_clear 50 = .ok (.putfield 42, 3) := by decide +kernel
theorem dX3_clear_53 : decode cX3_clear 53 = .ok (.aload_n 0, 1) := by decide +kernel
theorem dX3_clear_54 : decode cX3_clear 54 = .ok (.iconst 0, 1) := by decide +kernel
theorem dX3_clear_55 : decode cX3_clear 55 = .ok (.putfield 46, 3) := by decide +kernel
theorem dX3_clear_58 : decode cX3_clear 58 = .ok (.aload_n 0, 1) := by decide +kernel
theorem dX3_clear_59 : decode cX3_clear 59 = .ok (.iconst 0, 1) := by decide +kernel
theorem dX3_clear_60 : decode cX3_clear 60 = .ok (.putfield 49, 3) := by decide +kernel
theorem dX3_clear_63 : decode cX3_clear 63 = .ok (.return_, 1) := by decide +kernel
theorem dX3_read_0 : decode cX3_read 0 = .ok (.aload_n 0, 1) := by decide +kernel
theorem dX3_read_1 : decode cX3_read 1 = .ok (.invokevirtual 64, 3) := by decide +kernel
theorem dX3_read_4 : decode cX3_read 4 = .ok (.iconst 0, 1) := by decide +kernel
theorem dX3_read_5 : decode cX3_read 5 = .ok (.istore_n 2, 1) := by decide +kernel
theorem dX3_read_6 : decode cX3_read 6 = .ok (.iload_n 2, 1) := by decide +kernel
theorem dX3_read_7 : decode cX3_read 7 = .ok (.aload_n 1, 1) := by decide +kernel
theorem dX3_read_8 : decode cX3_read 8 = .ok (.getfield 67, 3) := by decide +kernel
theorem dX3_read_11 : decode cX3_read 11 = .ok (.if_icmp .gt 28, 3) := by decide +kernel
theorem dX3_read_14 : decode cX3_read 14 = .ok (.aload_n 1, 1) := by decide +kernel
theorem dX3_read_15 : decode cX3_read 15 = .ok (.invokevirtual 72, 3) := by decide +kernel
theorem dX3_read_18 : decode cX3_read 18 = .ok (.ifCond .eq 5, 3) := by decide +kernel
theorem dX3_read_21 : decode cX3_read 21 = .ok (.iconst 1, 1) := by decide +kernel
theorem dX3_read_22 : decode cX3_read 22 = .ok (.ireturn, 1) := by decide +kernel
theorem dX3_read_23 : decode cX3_read 23 = .ok (.aload_n 0, 1) := by decide +kernel
theorem dX3_read_24 : decode cX3_read 24 = .ok (.aload_n 1, 1) := by decide +kernel
theorem dX3_read_25 : decode cX3_read 25 = .ok (.invokevirtual 76, 3) := by decide +kernel
theorem dX3_read_28 : decode cX3_read 28 = .ok (.ifCond .ne 5, 3) := by decide +kernel
theorem dX3_read_31 : decode cX3_read 31 = .ok (.iconst 0, 1) := by decide +kernel
theorem dX3_read_32 : decode cX3_read 32 = .ok (.ireturn, 1) := by decide +kernel
theorem dX3_read_33 : decode cX3_read 33 = .ok (.iinc 2 1, 3) := by decide +kernel
theorem dX3_read_36 : decode cX3_read 36 = .ok (.goto (-30), 3) := by decide +kernel
theorem dX3_read_39 : decode cX3_read 39 = .ok (.iconst 1, 1) := by decide +kernel
theorem dX3_read_40 : decode cX3_read 40 = .ok (.ireturn, 1) := by decide +kernel
theorem dX3_readClause_0 : decode cX3_readClause 0 = .ok (.aload_n 1, 1) := by decide +kernel
theorem dX3_readClause_1 : decode cX3_readClause 1 = .ok (.ldc 80, 2) := by decide +kernel
theorem dX3_readClause_3 : decode cX3_readClause 3 = .ok (.invokevirtual 82, 3) := by decide +kernel
theorem dX3_readClause_6 : decode cX3_readClause 6 = .ok (.ifCond .eq 9, 3) := by decide +kernel
theorem dX3_readClause_9 : decode cX3_readClause 9 = .ok (.aload_n 0, 1) := by decide +kernel
theorem dX3_readClause_10 : decode cX3_readClause 10 = .ok (.aload_n 1, 1) := by decide +kernel
theorem dX3_readClause_11 : decode cX3_readClause 11 = .ok (.invokevirtual 86, 3) := by decide +kernel
theorem dX3_readClause_14 : decode cX3_readClause 14 = .ok (.ireturn, 1) := by decide +kernel
theorem dX3_readClause_15 : decode cX3_readClause 15 = .ok (.aload_n 1, 1) := by decide +kernel
theorem dX3_readClause_16 : decode cX3_readClause 16 = .ok (.ldc 89, 2) := by decide +kernel
theorem dX3_readClause_18 : decode cX3_readClause 18 = .ok (.invokevirtual 82, 3) := by decide +kernel
theorem dX3_readClause_21 : decode cX3_readClause 21 = .ok (.ifCond .eq 9, 3) := by decide +kernel
theorem dX3_readClause_24 : decode cX3_readClause 24 = .ok (.aload_n 0, 1) := by decide +kernel
theorem dX3_readClause_25 : decode cX3_readClause 25 = .ok (.aload_n 1, 1) := by decide +kernel
theorem dX3_readClause_26 : decode cX3_readClause 26 = .ok (.invokevirtual 91, 3) := by decide +kernel
theorem dX3_readClause_29 : decode cX3_readClause 29 = .ok (.ireturn, 1) := by decide +kernel
theorem dX3_readClause_30 : decode cX3_readClause 30 = .ok (.aload_n 1, 1) := by decide +kernel
theorem dX3_readClause_31 : decode cX3_readClause 31 = .ok (.ldc 94, 2) := by decide +kernel
theorem dX3_readClause_33 : decode cX3_readClause 33 = .ok (.invokevirtual 82, 3) := by decide +kernel
theorem dX3_readClause_36 : decode cX3_readClause 36 = .ok (.ifCond .eq 9, 3) := by decide +kernel
theorem dX3_readClause_39 : decode cX3_readClause 39 = .ok (.aload_n 0, 1) := by decide +kernel
theorem dX3_readClause_40 : decode cX3_readClause 40 = .ok (.aload_n 1, 1) := by decide +kernel
theorem dX3_readClause_41 : decode cX3_readClause 41 = .ok (.invokevirtual 96, 3) := by decide +kernel
theorem dX3_readClause_44 : decode cX3_readClause 44 = .ok (.ireturn, 1) := by decide +kernel
theorem dX3_readClause_45 : decode cX3_readClause 45 = .ok (.aload_n 1, 1) := by decide +kernel
theorem dX3_readClause_46 : decode cX3_readClause 46 = .ok (.iconst 1, 1) := by decide +kernel
theorem dX3_readClause_47 : decode cX3_readClause 47 = .ok (.invokevirtual 99, 3) := by decide +kernel
theorem dX3_readClause_50 : decode cX3_readClause 50 = .ok (.ireturn, 1) := by decide +kernel
theorem dX3_readFolk_0 : decode cX3_readFolk 0 = .ok (.aload_n 0, 1) := by decide +kernel
theorem dX3_readFolk_1 : decode cX3_readFolk 1 = .ok (.getfield 42, 3) := by decide +kernel
theorem dX3_readFolk_4 : decode cX3_readFolk 4 = .ok (.istore_n 2, 1) := by decide +kernel
theorem dX3_readFolk_5 : decode cX3_readFolk 5 = .ok (.iload_n 2, 1) := by decide +kernel
theorem dX3_readFolk_6 : decode cX3_readFolk 6 = .ok (.bipush 6, 2) := by decide +kernel
theorem dX3_readFolk_8 : decode cX3_readFolk 8 = .ok (.if_icmp .lt 9, 3) := by decide +kernel
theorem dX3_readFolk_11 : decode cX3_readFolk 11 = .ok (.aload_n 1, 1) := by decide +kernel
theorem dX3_readFolk_12 : decode cX3_readFolk 12 = .ok (.iconst 3, 1) := by decide +kernel
theorem dX3_readFolk_13 : decode cX3_readFolk 13 = .ok (.invokevirtual 99, 3) := by decide +kernel
theorem dX3_readFolk_16 : decode cX3_readFolk 16 = .ok (.ireturn, 1) := by decide +kernel
theorem dX3_readFolk_17 : decode cX3_readFolk 17 = .ok (.aload_n 0, 1) := by decide +kernel
theorem dX3_readFolk_18 : decode cX3_readFolk 18 = .ok (.dup, 1) := by decide +kernel
theorem dX3_readFolk_19 : decode cX3_readFolk 19 = .ok (.getfield 42, 3) := by decide +kernel
theorem dX3_readFolk_22 : decode cX3_readFolk 22 = .ok (.iconst 1, 1) := by decide +kernel
theorem dX3_readFolk_23 : decode cX3_readFolk 23 = .ok (.iadd, 1) := by decide +kernel
theorem dX3_readFolk_24 : decode cX3_readFolk 24 = .ok (.putfield 42, 3) := by decide +kernel
theorem dX3_readFolk_27 : decode cX3_readFolk 27 = .ok (.aload_n 1, 1) := by decide +kernel
theorem dX3_readFolk_28 : decode cX3_readFolk 28 = .ok (.aload_n 0, 1) := by decide +kernel
theorem dX3_readFolk_29 : decode cX3_readFolk 29 = .ok (.getfield 9, 3) := by decide +kernel
theorem dX3_readFolk_32 : decode cX3_readFolk 32 = .ok (.iload_n 2, 1) := by decide +kernel
theorem dX3_readFolk_33 : decode cX3_readFolk 33 = .ok (.iconst 0, 1) := by decide +kernel
theorem dX3_readFolk_34 : decode cX3_readFolk 34 = .ok (.bipush 99, 2) := by decide +kernel
theorem dX3_readFolk_36 : decode cX3_readFolk 36 = .ok (.invokestatic 103, 3) := by decide +kernel
theorem dX3_readFolk_39 : decode cX3_readFolk 39 = .ok (.ifCond .eq 31, 3) := by decide +kernel
theorem dX3_readFolk_42 : decode cX3_readFolk 42 = .ok (.aload_n 1, 1) := by decide +kernel
theorem dX3_readFolk_43 : decode cX3_readFolk 43 = .ok (.aload_n 0, 1) := by decide +kernel
theorem dX3_readFolk_44 : decode cX3_readFolk 44 = .ok (.getfield 15, 3) := by decide +kernel
theorem dX3_readFolk_47 : decode cX3_readFolk 47 = .ok (.iload_n 2, 1) := by decide +kernel
theorem dX3_readFolk_48 : decode cX3_readFolk 48 = .ok (.iconst 0, 1) := by decide +kernel
theorem dX3_readFolk_49 : decode cX3_readFolk 49 = .ok (.bipush 9, 2) := by decide +kernel
theorem dX3_readFolk_51 : decode cX3_readFolk 51 = .ok (.invokestatic 103, 3) := by decide +kernel
theorem dX3_readFolk_54 : decode cX3_readFolk 54 = .ok (.ifCond .eq 16, 3) := by decide +kernel
theorem dX3_readFolk_57 : decode cX3_readFolk 57 = .ok (.aload_n 1, 1) := by decide +kernel
theorem dX3_readFolk_58 : decode cX3_readFolk 58 = .ok (.bipush 59, 2) := by decide +kernel
theorem dX3_readFolk_60 : decode cX3_readFolk 60 = .ok (.invokevirtual 107, 3) := by decide +kernel
theorem dX3_readFolk_63 : decode cX3_readFolk 63 = .ok (.ifCond .eq 7, 3) := by decide +kernel
theorem dX3_readFolk_66 : decode cX3_readFolk 66 = .ok (.iconst 1, 1) := by decide +kernel
theorem dX3_readFolk_67 : decode cX3_readFolk 67 = .ok (.goto 4, 3) := by decide +kernel
theorem dX3_readFolk_70 : decode cX3_readFolk 70 = .ok (.iconst 0, 1) := by decide +kernel
theorem dX3_readFolk_71 : decode cX3_readFolk 71 = .ok (.ireturn, 1) := by decide +kernel
theorem dX3_readBeast_0 : decode cX3_readBeast 0 = .ok (.aload_n 0, 1) := by decide +kernel
theorem dX3_readBeast_1 : decode cX3_readBeast 1 = .ok (.getfield 46, 3) := by decide +kernel
theorem dX3_readBeast_4 : decode cX3_readBeast 4 = .ok (.istore_n 2, 1) := by decide +kernel
theorem dX3_readBeast_5 : decode cX3_readBeast 5 = .ok (.iload_n 2, 1) := by decide +kernel
theorem dX3_readBeast_6 : decode cX3_readBeast 6 = .ok (.bipush 12, 2) := by decide +kernel
theorem dX3_readBeast_8 : decode cX3_readBeast 8 = .ok (.if_icmp .lt 9, 3) := by decide +kernel
theorem dX3_readBeast_11 : decode cX3_readBeast 11 = .ok (.aload_n 1, 1) := by decide +kernel
theorem dX3_readBeast_12 : decode cX3_readBeast 12 = .ok (.iconst 3, 1) := by decide +kernel
theorem dX3_readBeast_13 : decode cX3_readBeast 13 = .ok (.invokevirtual 99, 3) := by decide +kernel
theorem dX3_readBeast_16 : decode cX3_readBeast 16 = .ok (.ireturn, 1) := by decide +kernel
theorem dX3_readBeast_17 : decode cX3_readBeast 17 = .ok (.aload_n 0, 1) := by decide +kernel
theorem dX3_readBeast_18 : decode cX3_readBeast 18 = .ok (.dup, 1) := by decide +kernel
theorem dX3_readBeast_19 : decode cX3_readBeast 19 = .ok (.getfield 46, 3) := by decide +kernel
theorem dX3_readBeast_22 : decode cX3_readBeast 22 = .ok (.iconst 1, 1) := by decide +kernel
theorem dX3_readBeast_23 : decode cX3_readBeast 23 = .ok (.iadd, 1) := by decide +kernel
theorem dX3_readBeast_24 : decode cX3_readBeast 24 = .ok (.putfield 46, 3) := by decide +kernel
theorem dX3_readBeast_27 : decode cX3_readBeast 27 = .ok (.aload_n 1, 1) := by decide +kernel
theorem dX3_readBeast_28 : decode cX3_readBeast 28 = .ok (.aload_n 0, 1) := by decide +kernel
theorem dX3_readBeast_29 : decode cX3_readBeast 29 = .ok (.getfield 18, 3) := by decide +kernel
theorem dX3_readBeast_32 : decode cX3_readBeast 32 = .ok (.iload_n 2, 1) := by decide +kernel
theorem dX3_readBeast_33 : decode cX3_readBeast 33 = .ok (.iconst 0, 1) := by decide +kernel
theorem dX3_readBeast_34 : decode cX3_readBeast 34 = .ok (.aload_n 0, 1) := by decide +kernel
theorem dX3_readBeast_35 : decode cX3_readBeast 35 = .ok (.getfield 42, 3) := by decide +kernel
theorem dX3_readBeast_38 : decode cX3_readBeast 38 = .ok (.iconst 1, 1) := by decide +kernel
theorem dX3_readBeast_39 : decode cX3_readBeast 39 = .ok (.isub, 1) := by decide +kernel
theorem dX3_readBeast_40 : decode cX3_readBeast 40 = .ok (.invokestatic 103, 3) := by decide +kernel
theorem dX3_readBeast_43 : decode cX3_readBeast 43 = .ok (.ifCond .eq 80, 3) := by decide +kernel
theorem dX3_readBeast_46 : decode cX3_readBeast 46 = .ok (.aload_n 1, 1) := by decide +kernel
theorem dX3_readBeast_47 : decode cX3_readBeast 47 = .ok (.aload_n 0, 1) := by decide +kernel
theorem dX3_readBeast_48 : decode cX3_readBeast 48 = .ok (.getfield 21, 3) := by decide +kernel
theorem dX3_readBeast_51 : decode cX3_readBeast 51 = .ok (.iload_n 2, 1) := by decide +kernel
theorem dX3_readBeast_52 : decode cX3_readBeast 52 = .ok (.iconst 0, 1) := by decide +kernel
theorem dX3_readBeast_53 : decode cX3_readBeast 53 = .ok (.aload_n 0, 1) := by decide +kernel
theorem dX3_readBeast_54 : decode cX3_readBeast 54 = .ok (.getfield 42, 3) := by decide +kernel
theorem dX3_readBeast_57 : decode cX3_readBeast 57 = .ok (.iconst 1, 1) := by decide +kernel
theorem dX3_readBeast_58 : decode cX3_readBeast 58 = .ok (.isub, 1) := by decide +kernel
theorem dX3_readBeast_59 : decode cX3_readBeast 59 = .ok (.invokestatic 103, 3) := by decide +kernel
theorem dX3_readBeast_62 : decode cX3_readBeast 62 = .ok (.ifCond .eq 61, 3) := by decide +kernel
theorem dX3_readBeast_65 : decode cX3_readBeast 65 = .ok (.aload_n 1, 1) := by decide +kernel
theorem dX3_readBeast_66 : decode cX3_readBeast 66 = .ok (.aload_n 0, 1) := by decide +kernel
theorem dX3_readBeast_67 : decode cX3_readBeast 67 = .ok (.getfield 18, 3) := by decide +kernel
theorem dX3_readBeast_70 : decode cX3_readBeast 70 = .ok (.aload_n 0, 1) := by decide +kernel
theorem dX3_readBeast_71 : decode cX3_readBeast 71 = .ok (.getfield 21, 3) := by decide +kernel
theorem dX3_readBeast_74 : decode cX3_readBeast 74 = .ok (.iload_n 2, 1) := by decide +kernel
theorem dX3_readBeast_75 : decode cX3_readBeast 75 = .ok (.invokestatic 111, 3) := by decide +kernel
theorem dX3_readBeast_78 : decode cX3_readBeast 78 = .ok (.ifCond .eq 45, 3) := by decide +kernel
theorem dX3_readBeast_81 : decode cX3_readBeast 81 = .ok (.aload_n 1, 1) := by decide +kernel
theorem dX3_readBeast_82 : decode cX3_readBeast 82 = .ok (.aload_n 0, 1) := by decide +kernel
theorem dX3_readBeast_83 : decode cX3_readBeast 83 = .ok (.getfield 24, 3) := by decide +kernel
theorem dX3_readBeast_86 : decode cX3_readBeast 86 = .ok (.iload_n 2, 1) := by decide +kernel
theorem dX3_readBeast_87 : decode cX3_readBeast 87 = .ok (.iconst 0, 1) := by decide +kernel
theorem dX3_readBeast_88 : decode cX3_readBeast 88 = .ok (.iconst 5, 1) := by decide +kernel
theorem dX3_readBeast_89 : decode cX3_readBeast 89 = .ok (.invokestatic 103, 3) := by decide +kernel
theorem dX3_readBeast_92 : decode cX3_readBeast 92 = .ok (.ifCond .eq 31, 3) := by decide +kernel
theorem dX3_readBeast_95 : decode cX3_readBeast 95 = .ok (.aload_n 1, 1) := by decide +kernel
theorem dX3_readBeast_96 : decode cX3_readBeast 96 = .ok (.aload_n 0, 1) := by decide +kernel
theorem dX3_readBeast_97 : decode cX3_readBeast 97 = .ok (.getfield 27, 3) := by decide +kernel
theorem dX3_readBeast_100 : decode cX3_readBeast 100 = .ok (.iload_n 2, 1) := by decide +kernel
theorem dX3_readBeast_101 : decode cX3_readBeast 101 = .ok (.iconst 1, 1) := by decide +kernel
theorem dX3_readBeast_102 : decode cX3_readBeast 102 = .ok (.bipush 30, 2) := by decide +kernel
theorem dX3_readBeast_104 : decode cX3_readBeast 104 = .ok (.invokestatic 103, 3) := by decide +kernel
theorem dX3_readBeast_107 : decode cX3_readBeast 107 = .ok (.ifCond .eq 16, 3) := by decide +kernel
theorem dX3_readBeast_110 : decode cX3_readBeast 110 = .ok (.aload_n 1, 1) := by decide +kernel
theorem dX3_readBeast_111 : decode cX3_readBeast 111 = .ok (.bipush 59, 2) := by decide +kernel
theorem dX3_readBeast_113 : decode cX3_readBeast 113 = .ok (.invokevirtual 107, 3) := by decide +kernel
theorem dX3_readBeast_116 : decode cX3_readBeast 116 = .ok (.ifCond .eq 7, 3) := by decide +kernel
theorem dX3_readBeast_119 : decode cX3_readBeast 119 = .ok (.iconst 1, 1) := by decide +kernel
theorem dX3_readBeast_120 : decode cX3_readBeast 120 = .ok (.goto 4, 3) := by decide +kernel
theorem dX3_readBeast_123 : decode cX3_readBeast 123 = .ok (.iconst 0, 1) := by decide +kernel
theorem dX3_readBeast_124 : decode cX3_readBeast 124 = .ok (.ireturn, 1) := by decide +kernel
theorem dX3_readFair_0 : decode cX3_readFair 0 = .ok (.aload_n 0, 1) := by decide +kernel
theorem dX3_readFair_1 : decode cX3_readFair 1 = .ok (.getfield 49, 3) := by decide +kernel
theorem dX3_readFair_4 : decode cX3_readFair 4 = .ok (.istore_n 2, 1) := by decide +kernel
theorem dX3_readFair_5 : decode cX3_readFair 5 = .ok (.iload_n 2, 1) := by decide +kernel
theorem dX3_readFair_6 : decode cX3_readFair 6 = .ok (.bipush 10, 2) := by decide +kernel
theorem dX3_readFair_8 : decode cX3_readFair 8 = .ok (.if_icmp .lt 9, 3) := by decide +kernel
theorem dX3_readFair_11 : decode cX3_readFair 11 = .ok (.aload_n 1, 1) := by decide +kernel
theorem dX3_readFair_12 : decode cX3_readFair 12 = .ok (.iconst 3, 1) := by decide +kernel
theorem dX3_readFair_13 : decode cX3_readFair 13 = .ok (.invokevirtual 99, 3) := by decide +kernel
theorem dX3_readFair_16 : decode cX3_readFair 16 = .ok (.ireturn, 1) := by decide +kernel
theorem dX3_readFair_17 : decode cX3_readFair 17 = .ok (.aload_n 0, 1) := by decide +kernel
theorem dX3_readFair_18 : decode cX3_readFair 18 = .ok (.dup, 1) := by decide +kernel
theorem dX3_readFair_19 : decode cX3_readFair 19 = .ok (.getfield 49, 3) := by decide +kernel
theorem dX3_readFair_22 : decode cX3_readFair 22 = .ok (.iconst 1, 1) := by decide +kernel
theorem dX3_readFair_23 : decode cX3_readFair 23 = .ok (.iadd, 1) := by decide +kernel
theorem dX3_readFair_24 : decode cX3_readFair 24 = .ok (.putfield 49, 3) := by decide +kernel
theorem dX3_readFair_27 : decode cX3_readFair 27 = .ok (.aload_n 1, 1) := by decide +kernel
theorem dX3_readFair_28 : decode cX3_readFair 28 = .ok (.aload_n 0, 1) := by decide +kernel
theorem dX3_readFair_29 : decode cX3_readFair 29 = .ok (.getfield 30, 3) := by decide +kernel
theorem dX3_readFair_32 : decode cX3_readFair 32 = .ok (.iload_n 2, 1) := by decide +kernel
theorem dX3_readFair_33 : decode cX3_readFair 33 = .ok (.iconst 0, 1) := by decide +kernel
theorem dX3_readFair_34 : decode cX3_readFair 34 = .ok (.iconst 5, 1) := by decide +kernel
theorem dX3_readFair_35 : decode cX3_readFair 35 = .ok (.invokestatic 103, 3) := by decide +kernel
theorem dX3_readFair_38 : decode cX3_readFair 38 = .ok (.ifCond .eq 61, 3) := by decide +kernel
theorem dX3_readFair_41 : decode cX3_readFair 41 = .ok (.aload_n 1, 1) := by decide +kernel
theorem dX3_readFair_42 : decode cX3_readFair 42 = .ok (.aload_n 0, 1) := by decide +kernel
theorem dX3_readFair_43 : decode cX3_readFair 43 = .ok (.getfield 33, 3) := by decide +kernel
theorem dX3_readFair_46 : decode cX3_readFair 46 = .ok (.iload_n 2, 1) := by decide +kernel
theorem dX3_readFair_47 : decode cX3_readFair 47 = .ok (.iconst 0, 1) := by decide +kernel
theorem dX3_readFair_48 : decode cX3_readFair 48 = .ok (.iconst 5, 1) := by decide +kernel
theorem dX3_readFair_49 : decode cX3_readFair 49 = .ok (.invokestatic 103, 3) := by decide +kernel
theorem dX3_readFair_52 : decode cX3_readFair 52 = .ok (.ifCond .eq 47, 3) := by decide +kernel
theorem dX3_readFair_55 : decode cX3_readFair 55 = .ok (.aload_n 1, 1) := by decide +kernel
theorem dX3_readFair_56 : decode cX3_readFair 56 = .ok (.aload_n 0, 1) := by decide +kernel
theorem dX3_readFair_57 : decode cX3_readFair 57 = .ok (.getfield 30, 3) := by decide +kernel
theorem dX3_readFair_60 : decode cX3_readFair 60 = .ok (.aload_n 0, 1) := by decide +kernel
theorem dX3_readFair_61 : decode cX3_readFair 61 = .ok (.getfield 33, 3) := by decide +kernel
theorem dX3_readFair_64 : decode cX3_readFair 64 = .ok (.iload_n 2, 1) := by decide +kernel
theorem dX3_readFair_65 : decode cX3_readFair 65 = .ok (.invokestatic 111, 3) := by decide +kernel
theorem dX3_readFair_68 : decode cX3_readFair 68 = .ok (.ifCond .eq 31, 3) := by decide +kernel
theorem dX3_readFair_71 : decode cX3_readFair 71 = .ok (.aload_n 1, 1) := by decide +kernel
theorem dX3_readFair_72 : decode cX3_readFair 72 = .ok (.aload_n 0, 1) := by decide +kernel
theorem dX3_readFair_73 : decode cX3_readFair 73 = .ok (.getfield 36, 3) := by decide +kernel
theorem dX3_readFair_76 : decode cX3_readFair 76 = .ok (.iload_n 2, 1) := by decide +kernel
theorem dX3_readFair_77 : decode cX3_readFair 77 = .ok (.iconst 1, 1) := by decide +kernel
theorem dX3_readFair_78 : decode cX3_readFair 78 = .ok (.bipush 9, 2) := by decide +kernel
theorem dX3_readFair_80 : decode cX3_readFair 80 = .ok (.invokestatic 103, 3) := by decide +kernel
theorem dX3_readFair_83 : decode cX3_readFair 83 = .ok (.ifCond .eq 16, 3) := by decide +kernel
theorem dX3_readFair_86 : decode cX3_readFair 86 = .ok (.aload_n 1, 1) := by decide +kernel
theorem dX3_readFair_87 : decode cX3_readFair 87 = .ok (.bipush 59, 2) := by decide +kernel
theorem dX3_readFair_89 : decode cX3_readFair 89 = .ok (.invokevirtual 107, 3) := by decide +kernel
theorem dX3_readFair_92 : decode cX3_readFair 92 = .ok (.ifCond .eq 7, 3) := by decide +kernel
theorem dX3_readFair_95 : decode cX3_readFair 95 = .ok (.iconst 1, 1) := by decide +kernel
theorem dX3_readFair_96 : decode cX3_readFair 96 = .ok (.goto 4, 3) := by decide +kernel
theorem dX3_readFair_99 : decode cX3_readFair 99 = .ok (.iconst 0, 1) := by decide +kernel
theorem dX3_readFair_100 : decode cX3_readFair 100 = .ok (.ireturn, 1) := by decide +kernel
theorem dX3_readInto_0 : decode cX3_readInto 0 = .ok (.aload_n 0, 1) := by decide +kernel
theorem dX3_readInto_1 : decode cX3_readInto 1 = .ok (.iload_n 3, 1) := by decide +kernel
theorem dX3_readInto_2 : decode cX3_readInto 2 = .ok (.iload 4, 2) := by decide +kernel
theorem dX3_readInto_4 : decode cX3_readInto 4 = .ok (.invokevirtual 115, 3) := by decide +kernel
theorem dX3_readInto_7 : decode cX3_readInto 7 = .ok (.istore 5, 2) := by decide +kernel
theorem dX3_readInto_9 : decode cX3_readInto 9 = .ok (.iload 5, 2) := by decide +kernel
theorem dX3_readInto_11 : decode cX3_readInto 11 = .ok (.iconst (-1), 1) := by decide +kernel
theorem dX3_readInto_12 : decode cX3_readInto 12 = .ok (.if_icmp .eq 13, 3) := by decide +kernel
theorem dX3_readInto_15 : decode cX3_readInto 15 = .ok (.iload_n 2, 1) := by decide +kernel
theorem dX3_readInto_16 : decode cX3_readInto 16 = .ok (.ifCond .lt 9, 3) := by decide +kernel
theorem dX3_readInto_19 : decode cX3_readInto 19 = .ok (.iload_n 2, 1) := by decide +kernel
theorem dX3_readInto_20 : decode cX3_readInto 20 = .ok (.aload_n 1, 1) := by decide +kernel
theorem dX3_readInto_21 : decode cX3_readInto 21 = .ok (.arraylength, 1) := by decide +kernel
theorem dX3_readInto_22 : decode cX3_readInto 22 = .ok (.if_icmp .lt 5, 3) := by decide +kernel
theorem dX3_readInto_25 : decode cX3_readInto 25 = .ok (.iconst 0, 1) := by decide +kernel
theorem dX3_readInto_26 : decode cX3_readInto 26 = .ok (.ireturn, 1) := by decide +kernel
theorem dX3_readInto_27 : decode cX3_readInto 27 = .ok (.aload_n 1, 1) := by decide +kernel
theorem dX3_readInto_28 : decode cX3_readInto 28 = .ok (.iload_n 2, 1) := by decide +kernel
theorem dX3_readInto_29 : decode cX3_readInto 29 = .ok (.iload 5, 2) := by decide +kernel
theorem dX3_readInto_31 : decode cX3_readInto 31 = .ok (.iastore, 1) := by decide +kernel
theorem dX3_readInto_32 : decode cX3_readInto 32 = .ok (.iconst 1, 1) := by decide +kernel
theorem dX3_readInto_33 : decode cX3_readInto 33 = .ok (.ireturn, 1) := by decide +kernel
theorem dX3_areUnlike_0 : decode cX3_areUnlike 0 = .ok (.iload_n 3, 1) := by decide +kernel
theorem dX3_areUnlike_1 : decode cX3_areUnlike 1 = .ok (.ifCond .lt 24, 3) := by decide +kernel
theorem dX3_areUnlike_4 : decode cX3_areUnlike 4 = .ok (.iload_n 3, 1) := by decide +kernel
theorem dX3_areUnlike_5 : decode cX3_areUnlike 5 = .ok (.aload_n 1, 1) := by decide +kernel
theorem dX3_areUnlike_6 : decode cX3_areUnlike 6 = .ok (.arraylength, 1) := by decide +kernel
theorem dX3_areUnlike_7 : decode cX3_areUnlike 7 = .ok (.if_icmp .ge 18, 3) := by decide +kernel
theorem dX3_areUnlike_10 : decode cX3_areUnlike 10 = .ok (.iload_n 3, 1) := by decide +kernel
theorem dX3_areUnlike_11 : decode cX3_areUnlike 11 = .ok (.aload_n 2, 1) := by decide +kernel
theorem dX3_areUnlike_12 : decode cX3_areUnlike 12 = .ok (.arraylength, 1) := by decide +kernel
theorem dX3_areUnlike_13 : decode cX3_areUnlike 13 = .ok (.if_icmp .ge 12, 3) := by decide +kernel
theorem dX3_areUnlike_16 : decode cX3_areUnlike 16 = .ok (.aload_n 1, 1) := by decide +kernel
theorem dX3_areUnlike_17 : decode cX3_areUnlike 17 = .ok (.iload_n 3, 1) := by decide +kernel
theorem dX3_areUnlike_18 : decode cX3_areUnlike 18 = .ok (.iaload, 1) := by decide +kernel
theorem dX3_areUnlike_19 : decode cX3_areUnlike 19 = .ok (.aload_n 2, 1) := by decide +kernel
theorem dX3_areUnlike_20 : decode cX3_areUnlike 20 = .ok (.iload_n 3, 1) := by decide +kernel
theorem dX3_areUnlike_21 : decode cX3_areUnlike 21 = .ok (.iaload, 1) := by decide +kernel
theorem dX3_areUnlike_22 : decode cX3_areUnlike 22 = .ok (.if_icmp .ne 9, 3) := by decide +kernel
theorem dX3_areUnlike_25 : decode cX3_areUnlike 25 = .ok (.aload_n 0, 1) := by decide +kernel
theorem dX3_areUnlike_26 : decode cX3_areUnlike 26 = .ok (.iconst 2, 1) := by decide +kernel
theorem dX3_areUnlike_27 : decode cX3_areUnlike 27 = .ok (.invokevirtual 99, 3) := by decide +kernel
theorem dX3_areUnlike_30 : decode cX3_areUnlike 30 = .ok (.ireturn, 1) := by decide +kernel
theorem dX3_areUnlike_31 : decode cX3_areUnlike 31 = .ok (.iconst 1, 1) := by decide +kernel
theorem dX3_areUnlike_32 : decode cX3_areUnlike 32 = .ok (.ireturn, 1) := by decide +kernel
theorem dX3_hasFolk_0 : decode cX3_hasFolk 0 = .ok (.iload_n 1, 1) := by decide +kernel
theorem dX3_hasFolk_1 : decode cX3_hasFolk 1 = .ok (.ifCond .lt 21, 3) := by decide +kernel
theorem dX3_hasFolk_4 : decode cX3_hasFolk 4 = .ok (.iload_n 1, 1) := by decide +kernel
theorem dX3_hasFolk_5 : decode cX3_hasFolk 5 = .ok (.aload_n 0, 1) := by decide +kernel
theorem dX3_hasFolk_6 : decode cX3_hasFolk 6 = .ok (.getfield 42, 3) := by decide +kernel
theorem dX3_hasFolk_9 : decode cX3_hasFolk 9 = .ok (.if_icmp .ge 13, 3) := by decide +kernel
theorem dX3_hasFolk_12 : decode cX3_hasFolk 12 = .ok (.iload_n 1, 1) := by decide +kernel
theorem dX3_hasFolk_13 : decode cX3_hasFolk 13 = .ok (.bipush 6, 2) := by decide +kernel
theorem dX3_hasFolk_15 : decode cX3_hasFolk 15 = .ok (.if_icmp .ge 7, 3) := by decide +kernel
theorem dX3_hasFolk_18 : decode cX3_hasFolk 18 = .ok (.iconst 1, 1) := by decide +kernel
theorem dX3_hasFolk_19 : decode cX3_hasFolk 19 = .ok (.goto 4, 3) := by decide +kernel
theorem dX3_hasFolk_22 : decode cX3_hasFolk 22 = .ok (.iconst 0, 1) := by decide +kernel
theorem dX3_hasFolk_23 : decode cX3_hasFolk 23 = .ok (.ireturn, 1) := by decide +kernel
theorem dX3_hasBeast_0 : decode cX3_hasBeast 0 = .ok (.iload_n 1, 1) := by decide +kernel
theorem dX3_hasBeast_1 : decode cX3_hasBeast 1 = .ok (.ifCond .lt 21, 3) := by decide +kernel
theorem dX3_hasBeast_4 : decode cX3_hasBeast 4 = .ok (.iload_n 1, 1) := by decide +kernel
theorem dX3_hasBeast_5 : decode cX3_hasBeast 5 = .ok (.aload_n 0, 1) := by decide +kernel
theorem dX3_hasBeast_6 : decode cX3_hasBeast 6 = .ok (.getfield 46, 3) := by decide +kernel
theorem dX3_hasBeast_9 : decode cX3_hasBeast 9 = .ok (.if_icmp .ge 13, 3) := by decide +kernel
theorem dX3_hasBeast_12 : decode cX3_hasBeast 12 = .ok (.iload_n 1, 1) := by decide +kernel
theorem dX3_hasBeast_13 : decode cX3_hasBeast 13 = .ok (.bipush 12, 2) := by decide +kernel
theorem dX3_hasBeast_15 : decode cX3_hasBeast 15 = .ok (.if_icmp .ge 7, 3) := by decide +kernel
theorem dX3_hasBeast_18 : decode cX3_hasBeast 18 = .ok (.iconst 1, 1) := by decide +kernel
theorem dX3_hasBeast_19 : decode cX3_hasBeast 19 = .ok (.goto 4, 3) := by decide +kernel
theorem dX3_hasBeast_22 : decode cX3_hasBeast 22 = .ok (.iconst 0, 1) := by decide +kernel
theorem dX3_hasBeast_23 : decode cX3_hasBeast 23 = .ok (.ireturn, 1) := by decide +kernel
theorem dX3_growthOf_0 : decode cX3_growthOf 0 = .ok (.aload_n 0, 1) := by decide +kernel
theorem dX3_growthOf_1 : decode cX3_growthOf 1 = .ok (.iload_n 1, 1) := by decide +kernel
theorem dX3_growthOf_2 : decode cX3_growthOf 2 = .ok (.invokevirtual 119, 3) := by decide +kernel
theorem dX3_growthOf_5 : decode cX3_growthOf 5 = .ok (.ifCond .eq 12, 3) := by decide +kernel
theorem dX3_growthOf_8 : decode cX3_growthOf 8 = .ok (.aload_n 0, 1) := by decide +kernel
theorem dX3_growthOf_9 : decode cX3_growthOf 9 = .ok (.getfield 15, 3) := by decide +kernel
theorem dX3_growthOf_12 : decode cX3_growthOf 12 = .ok (.iload_n 1, 1) := by decide +kernel
theorem dX3_growthOf_13 : decode cX3_growthOf 13 = .ok (.iaload, 1) := by decide +kernel
theorem dX3_growthOf_14 : decode cX3_growthOf 14 = .ok (.goto 4, 3) := by decide +kernel
theorem dX3_growthOf_17 : decode cX3_growthOf 17 = .ok (.iconst 0, 1) := by decide +kernel
theorem dX3_growthOf_18 : decode cX3_growthOf 18 = .ok (.ireturn, 1) := by decide +kernel
theorem dX3_doerOf_0 : decode cX3_doerOf 0 = .ok (.aload_n 0, 1) := by decide +kernel
theorem dX3_doerOf_1 : decode cX3_doerOf 1 = .ok (.iload_n 1, 1) := by decide +kernel
theorem dX3_doerOf_2 : decode cX3_doerOf 2 = .ok (.invokevirtual 122, 3) := by decide +kernel
theorem dX3_doerOf_5 : decode cX3_doerOf 5 = .ok (.ifCond .eq 12, 3) := by decide +kernel
theorem dX3_doerOf_8 : decode cX3_doerOf 8 = .ok (.aload_n 0, 1) := by decide +kernel
theorem dX3_doerOf_9 : decode cX3_doerOf 9 = .ok (.getfield 18, 3) := by decide +kernel
theorem dX3_doerOf_12 : decode cX3_doerOf 12 = .ok (.iload_n 1, 1) := by decide +kernel
theorem dX3_doerOf_13 : decode cX3_doerOf 13 = .ok (.iaload, 1) := by decide +kernel
theorem dX3_doerOf_14 : decode cX3_doerOf 14 = .ok (.goto 4, 3) := by decide +kernel
theorem dX3_doerOf_17 : decode cX3_doerOf 17 = .ok (.iconst (-1), 1) := by decide +kernel
theorem dX3_doerOf_18 : decode cX3_doerOf 18 = .ok (.ireturn, 1) := by decide +kernel
theorem dX3_receiverOf_0 : decode cX3_receiverOf 0 = .ok (.aload_n 0, 1) := by decide +kernel
theorem dX3_receiverOf_1 : decode cX3_receiverOf 1 = .ok (.iload_n 1, 1) := by decide +kernel
theorem dX3_receiverOf_2 : decode cX3_receiverOf 2 = .ok (.invokevirtual 122, 3) := by decide +kernel
theorem dX3_receiverOf_5 : decode cX3_receiverOf 5 = .ok (.ifCond .eq 12, 3) := by decide +kernel
theorem dX3_receiverOf_8 : decode cX3_receiverOf 8 = .ok (.aload_n 0, 1) := by decide +kernel
theorem dX3_receiverOf_9 : decode cX3_receiverOf 9 = .ok (.getfield 21, 3) := by decide +kernel
theorem dX3_receiverOf_12 : decode cX3_receiverOf 12 = .ok (.iload_n 1, 1) := by decide +kernel
theorem dX3_receiverOf_13 : decode cX3_receiverOf 13 = .ok (.iaload, 1) := by decide +kernel
theorem dX3_receiverOf_14 : decode cX3_receiverOf 14 = .ok (.goto 4, 3) := by decide +kernel
theorem dX3_receiverOf_17 : decode cX3_receiverOf 17 = .ok (.iconst (-1), 1) := by decide +kernel
theorem dX3_receiverOf_18 : decode cX3_receiverOf 18 = .ok (.ireturn, 1) := by decide +kernel
theorem dX3_kindOf_0 : decode cX3_kindOf 0 = .ok (.aload_n 0, 1) := by decide +kernel
theorem dX3_kindOf_1 : decode cX3_kindOf 1 = .ok (.iload_n 1, 1) := by decide +kernel
theorem dX3_kindOf_2 : decode cX3_kindOf 2 = .ok (.invokevirtual 122, 3) := by decide +kernel
theorem dX3_kindOf_5 : decode cX3_kindOf 5 = .ok (.ifCond .eq 12, 3) := by decide +kernel
theorem dX3_kindOf_8 : decode cX3_kindOf 8 = .ok (.aload_n 0, 1) := by decide +kernel
theorem dX3_kindOf_9 : decode cX3_kindOf 9 = .ok (.getfield 24, 3) := by decide +kernel
theorem dX3_kindOf_12 : decode cX3_kindOf 12 = .ok (.iload_n 1, 1) := by decide +kernel
theorem dX3_kindOf_13 : decode cX3_kindOf 13 = .ok (.iaload, 1) := by decide +kernel
theorem dX3_kindOf_14 : decode cX3_kindOf 14 = .ok (.goto 4, 3) := by decide +kernel
theorem dX3_kindOf_17 : decode cX3_kindOf 17 = .ok (.iconst (-1), 1) := by decide +kernel
theorem dX3_kindOf_18 : decode cX3_kindOf 18 = .ok (.ireturn, 1) := by decide +kernel
theorem dX3_fairPart_0 : decode cX3_fairPart 0 = .ok (.iload_n 1, 1) := by decide +kernel
theorem dX3_fairPart_1 : decode cX3_fairPart 1 = .ok (.ifCond .lt 17, 3) := by decide +kernel
theorem dX3_fairPart_4 : decode cX3_fairPart 4 = .ok (.iload_n 1, 1) := by decide +kernel
theorem dX3_fairPart_5 : decode cX3_fairPart 5 = .ok (.aload_n 0, 1) := by decide +kernel
theorem dX3_fairPart_6 : decode cX3_fairPart 6 = .ok (.getfield 49, 3) := by decide +kernel
theorem dX3_fairPart_9 : decode cX3_fairPart 9 = .ok (.if_icmp .ge 9, 3) := by decide +kernel
theorem dX3_fairPart_12 : decode cX3_fairPart 12 = .ok (.iload_n 1, 1) := by decide +kernel
theorem dX3_fairPart_13 : decode cX3_fairPart 13 = .ok (.bipush 10, 2) := by decide +kernel
theorem dX3_fairPart_15 : decode cX3_fairPart 15 = .ok (.if_icmp .lt 5, 3) := by decide +kernel
theorem dX3_fairPart_18 : decode cX3_fairPart 18 = .ok (.iconst (-1), 1) := by decide +kernel
theorem dX3_fairPart_19 : decode cX3_fairPart 19 = .ok (.ireturn, 1) := by decide +kernel
theorem dX3_fairPart_20 : decode cX3_fairPart 20 = .ok (.iload_n 2, 1) := by decide +kernel
theorem dX3_fairPart_21 : decode cX3_fairPart 21 = .ok (.ifCond .ne 12, 3) := by decide +kernel
theorem dX3_fairPart_24 : decode cX3_fairPart 24 = .ok (.aload_n 0, 1) := by decide +kernel
theorem dX3_fairPart_25 : decode cX3_fairPart 25 = .ok (.getfield 30, 3) := by decide +kernel
theorem dX3_fairPart_28 : decode cX3_fairPart 28 = .ok (.iload_n 1, 1) := by decide +kernel
theorem dX3_fairPart_29 : decode cX3_fairPart 29 = .ok (.iaload, 1) := by decide +kernel
theorem dX3_fairPart_30 : decode cX3_fairPart 30 = .ok (.goto 23, 3) := by decide +kernel
theorem dX3_fairPart_33 : decode cX3_fairPart 33 = .ok (.iload_n 2, 1) := by decide +kernel
theorem dX3_fairPart_34 : decode cX3_fairPart 34 = .ok (.iconst 1, 1) := by decide +kernel
theorem dX3_fairPart_35 : decode cX3_fairPart 35 = .ok (.if_icmp .ne 12, 3) := by decide +kernel
theorem dX3_fairPart_38 : decode cX3_fairPart 38 = .ok (.aload_n 0, 1) := by decide +kernel
theorem dX3_fairPart_39 : decode cX3_fairPart 39 = .ok (.getfield 33, 3) := by decide +kernel
theorem dX3_fairPart_42 : decode cX3_fairPart 42 = .ok (.iload_n 1, 1) := by decide +kernel
theorem dX3_fairPart_43 : decode cX3_fairPart 43 = .ok (.iaload, 1) := by decide +kernel
theorem dX3_fairPart_44 : decode cX3_fairPart 44 = .ok (.goto 9, 3) := by decide +kernel
theorem dX3_fairPart_47 : decode cX3_fairPart 47 = .ok (.aload_n 0, 1) := by decide +kernel
theorem dX3_fairPart_48 : decode cX3_fairPart 48 = .ok (.getfield 36, 3) := by decide +kernel
theorem dX3_fairPart_51 : decode cX3_fairPart 51 = .ok (.iload_n 1, 1) := by decide +kernel
theorem dX3_fairPart_52 : decode cX3_fairPart 52 = .ok (.iaload, 1) := by decide +kernel
theorem dX3_fairPart_53 : decode cX3_fairPart 53 = .ok (.ireturn, 1) := by decide +kernel
theorem dX3_doneBy_0 : decode cX3_doneBy 0 = .ok (.aload_n 0, 1) := by decide +kernel
theorem dX3_doneBy_1 : decode cX3_doneBy 1 = .ok (.aload_n 0, 1) := by decide +kernel
theorem dX3_doneBy_2 : decode cX3_doneBy 2 = .ok (.getfield 18, 3) := by decide +kernel
theorem dX3_doneBy_5 : decode cX3_doneBy 5 = .ok (.iload_n 1, 1) := by decide +kernel
theorem dX3_doneBy_6 : decode cX3_doneBy 6 = .ok (.invokevirtual 125, 3) := by decide +kernel
theorem dX3_doneBy_9 : decode cX3_doneBy 9 = .ok (.ireturn, 1) := by decide +kernel
theorem dX3_doneFor_0 : decode cX3_doneFor 0 = .ok (.aload_n 0, 1) := by decide +kernel
theorem dX3_doneFor_1 : decode cX3_doneFor 1 = .ok (.aload_n 0, 1) := by decide +kernel
theorem dX3_doneFor_2 : decode cX3_doneFor 2 = .ok (.getfield 21, 3) := by decide +kernel
theorem dX3_doneFor_5 : decode cX3_doneFor 5 = .ok (.iload_n 1, 1) := by decide +kernel
theorem dX3_doneFor_6 : decode cX3_doneFor 6 = .ok (.invokevirtual 125, 3) := by decide +kernel
theorem dX3_doneFor_9 : decode cX3_doneFor 9 = .ok (.ireturn, 1) := by decide +kernel
theorem dX3_ofKind_0 : decode cX3_ofKind 0 = .ok (.aload_n 0, 1) := by decide +kernel
theorem dX3_ofKind_1 : decode cX3_ofKind 1 = .ok (.aload_n 0, 1) := by decide +kernel
theorem dX3_ofKind_2 : decode cX3_ofKind 2 = .ok (.getfield 24, 3) := by decide +kernel
theorem dX3_ofKind_5 : decode cX3_ofKind 5 = .ok (.iload_n 1, 1) := by decide +kernel
theorem dX3_ofKind_6 : decode cX3_ofKind 6 = .ok (.invokevirtual 125, 3) := by decide +kernel
theorem dX3_ofKind_9 : decode cX3_ofKind 9 = .ok (.ireturn, 1) := by decide +kernel
theorem dX3_matching_0 : decode cX3_matching 0 = .ok (.iconst 0, 1) := by decide +kernel
theorem dX3_matching_1 : decode cX3_matching 1 = .ok (.istore_n 3, 1) := by decide +kernel
theorem dX3_matching_2 : decode cX3_matching 2 = .ok (.iconst 0, 1) := by decide +kernel
theorem dX3_matching_3 : decode cX3_matching 3 = .ok (.istore 4, 2) := by decide +kernel
theorem dX3_matching_5 : decode cX3_matching 5 = .ok (.iload 4, 2) := by decide +kernel
theorem dX3_matching_7 : decode cX3_matching 7 = .ok (.aload_n 0, 1) := by decide +kernel
theorem dX3_matching_8 : decode cX3_matching 8 = .ok (.getfield 46, 3) := by decide +kernel
theorem dX3_matching_11 : decode cX3_matching 11 = .ok (.if_icmp .ge 31, 3) := by decide +kernel
theorem dX3_matching_14 : decode cX3_matching 14 = .ok (.iload 4, 2) := by decide +kernel
theorem dX3_matching_16 : decode cX3_matching 16 = .ok (.aload_n 1, 1) := by decide +kernel
theorem dX3_matching_17 : decode cX3_matching 17 = .ok (.arraylength, 1) := by decide +kernel
theorem dX3_matching_18 : decode cX3_matching 18 = .ok (.if_icmp .ge 24, 3) := by decide +kernel
theorem dX3_matching_21 : decode cX3_matching 21 = .ok (.aload_n 1, 1) := by decide +kernel
theorem dX3_matching_22 : decode cX3_matching 22 = .ok (.iload 4, 2) := by decide +kernel
theorem dX3_matching_24 : decode cX3_matching 24 = .ok (.iaload, 1) := by decide +kernel
theorem dX3_matching_25 : decode cX3_matching 25 = .ok (.iload_n 2, 1) := by decide +kernel
theorem dX3_matching_26 : decode cX3_matching 26 = .ok (.if_icmp .ne 10, 3) := by decide +kernel
theorem dX3_matching_29 : decode cX3_matching 29 = .ok (.iload_n 3, 1) := by decide +kernel
theorem dX3_matching_30 : decode cX3_matching 30 = .ok (.iconst 1, 1) := by decide +kernel
theorem dX3_matching_31 : decode cX3_matching 31 = .ok (.iload 4, 2) := by decide +kernel
theorem dX3_matching_33 : decode cX3_matching 33 = .ok (.ishl, 1) := by decide +kernel
theorem dX3_matching_34 : decode cX3_matching 34 = .ok (.ior, 1) := by decide +kernel
theorem dX3_matching_35 : decode cX3_matching 35 = .ok (.istore_n 3, 1) := by decide +kernel
theorem dX3_matching_36 : decode cX3_matching 36 = .ok (.iinc 4 1, 3) := by decide +kernel
theorem dX3_matching_39 : decode cX3_matching 39 = .ok (.goto (-34), 3) := by decide +kernel
theorem dX3_matching_42 : decode cX3_matching 42 = .ok (.iload_n 3, 1) := by decide +kernel
theorem dX3_matching_43 : decode cX3_matching 43 = .ok (.ireturn, 1) := by decide +kernel
theorem dX3_doersFor_0 : decode cX3_doersFor 0 = .ok (.iconst 0, 1) := by decide +kernel
theorem dX3_doersFor_1 : decode cX3_doersFor 1 = .ok (.istore_n 3, 1) := by decide +kernel
theorem dX3_doersFor_2 : decode cX3_doersFor 2 = .ok (.iconst 0, 1) := by decide +kernel
theorem dX3_doersFor_3 : decode cX3_doersFor 3 = .ok (.istore 4, 2) := by decide +kernel
theorem dX3_doersFor_5 : decode cX3_doersFor 5 = .ok (.iload 4, 2) := by decide +kernel
theorem dX3_doersFor_7 : decode cX3_doersFor 7 = .ok (.bipush 12, 2) := by decide +kernel
theorem dX3_doersFor_9 : decode cX3_doersFor 9 = .ok (.if_icmp .ge 44, 3) := by decide +kernel
theorem dX3_doersFor_12 : decode cX3_doersFor 12 = .ok (.iload_n 2, 1) := by decide +kernel
theorem dX3_doersFor_13 : decode cX3_doersFor 13 = .ok (.iconst 1, 1) := by decide +kernel
theorem dX3_doersFor_14 : decode cX3_doersFor 14 = .ok (.iload 4, 2) := by decide +kernel
theorem dX3_doersFor_16 : decode cX3_doersFor 16 = .ok (.ishl, 1) := by decide +kernel
theorem dX3_doersFor_17 : decode cX3_doersFor 17 = .ok (.iand, 1) := by decide +kernel
theorem dX3_doersFor_18 : decode cX3_doersFor 18 = .ok (.ifCond .eq 29, 3) := by decide +kernel
theorem dX3_doersFor_21 : decode cX3_doersFor 21 = .ok (.iload_n 1, 1) := by decide +kernel
theorem dX3_doersFor_22 : decode cX3_doersFor 22 = .ok (.iconst 1, 1) := by decide +kernel
theorem dX3_doersFor_23 : decode cX3_doersFor 23 = .ok (.aload_n 0, 1) := by decide +kernel
theorem dX3_doersFor_24 : decode cX3_doersFor 24 = .ok (.getfield 21, 3) := by decide +kernel
theorem dX3_doersFor_27 : decode cX3_doersFor 27 = .ok (.iload 4, 2) := by decide +kernel
theorem dX3_doersFor_29 : decode cX3_doersFor 29 = .ok (.iaload, 1) := by decide +kernel
theorem dX3_doersFor_30 : decode cX3_doersFor 30 = .ok (.ishl, 1) := by decide +kernel
theorem dX3_doersFor_31 : decode cX3_doersFor 31 = .ok (.iand, 1) := by decide +kernel
theorem dX3_doersFor_32 : decode cX3_doersFor 32 = .ok (.ifCond .eq 15, 3) := by decide +kernel
theorem dX3_doersFor_35 : decode cX3_doersFor 35 = .ok (.iload_n 3, 1) := by decide +kernel
theorem dX3_doersFor_36 : decode cX3_doersFor 36 = .ok (.iconst 1, 1) := by decide +kernel
theorem dX3_doersFor_37 : decode cX3_doersFor 37 = .ok (.aload_n 0, 1) := by decide +kernel
theorem dX3_doersFor_38 : decode cX3_doersFor 38 = .ok (.getfield 18, 3) := by decide +kernel
theorem dX3_doersFor_41 : decode cX3_doersFor 41 = .ok (.iload 4, 2) := by decide +kernel
theorem dX3_doersFor_43 : decode cX3_doersFor 43 = .ok (.iaload, 1) := by decide +kernel
theorem dX3_doersFor_44 : decode cX3_doersFor 44 = .ok (.ishl, 1) := by decide +kernel
theorem dX3_doersFor_45 : decode cX3_doersFor 45 = .ok (.ior, 1) := by decide +kernel
theorem dX3_doersFor_46 : decode cX3_doersFor 46 = .ok (.istore_n 3, 1) := by decide +kernel
theorem dX3_doersFor_47 : decode cX3_doersFor 47 = .ok (.iinc 4 1, 3) := by decide +kernel
theorem dX3_doersFor_50 : decode cX3_doersFor 50 = .ok (.goto (-45), 3) := by decide +kernel
theorem dX3_doersFor_53 : decode cX3_doersFor 53 = .ok (.iload_n 3, 1) := by decide +kernel
theorem dX3_doersFor_54 : decode cX3_doersFor 54 = .ok (.ireturn, 1) := by decide +kernel
theorem dX3_cheapest_0 : decode cX3_cheapest 0 = .ok (.iload_n 1, 1) := by decide +kernel
theorem dX3_cheapest_1 : decode cX3_cheapest 1 = .ok (.ifCond .lt 19, 3) := by decide +kernel
theorem dX3_cheapest_4 : decode cX3_cheapest 4 = .ok (.iload_n 1, 1) := by decide +kernel
theorem dX3_cheapest_5 : decode cX3_cheapest 5 = .ok (.bipush 6, 2) := by decide +kernel
theorem dX3_cheapest_7 : decode cX3_cheapest 7 = .ok (.if_icmp .ge 13, 3) := by decide +kernel
theorem dX3_cheapest_10 : decode cX3_cheapest 10 = .ok (.iload_n 2, 1) := by decide +kernel
theorem dX3_cheapest_11 : decode cX3_cheapest 11 = .ok (.ifCond .lt 9, 3) := by decide +kernel
theorem dX3_cheapest_14 : decode cX3_cheapest 14 = .ok (.iload_n 2, 1) := by decide +kernel
theorem dX3_cheapest_15 : decode cX3_cheapest 15 = .ok (.bipush 6, 2) := by decide +kernel
theorem dX3_cheapest_17 : decode cX3_cheapest 17 = .ok (.if_icmp .lt 5, 3) := by decide +kernel
theorem dX3_cheapest_20 : decode cX3_cheapest 20 = .ok (.iconst (-1), 1) := by decide +kernel
theorem dX3_cheapest_21 : decode cX3_cheapest 21 = .ok (.ireturn, 1) := by decide +kernel
theorem dX3_cheapest_22 : decode cX3_cheapest 22 = .ok (.aload_n 0, 1) := by decide +kernel
theorem dX3_cheapest_23 : decode cX3_cheapest 23 = .ok (.getfield 39, 3) := by decide +kernel
theorem dX3_cheapest_26 : decode cX3_cheapest 26 = .ok (.iconst (-1), 1) := by decide +kernel
theorem dX3_cheapest_27 : decode cX3_cheapest 27 = .ok (.invokestatic 58, 3) := by decide +kernel
theorem dX3_cheapest_30 : decode cX3_cheapest 30 = .ok (.aload_n 0, 1) := by decide +kernel
theorem dX3_cheapest_31 : decode cX3_cheapest 31 = .ok (.getfield 39, 3) := by decide +kernel
theorem dX3_cheapest_34 : decode cX3_cheapest 34 = .ok (.iload_n 1, 1) := by decide +kernel
theorem dX3_cheapest_35 : decode cX3_cheapest 35 = .ok (.iconst 1, 1) := by decide +kernel
theorem dX3_cheapest_36 : decode cX3_cheapest 36 = .ok (.iastore, 1) := by decide +kernel
theorem dX3_cheapest_37 : decode cX3_cheapest 37 = .ok (.iconst 1, 1) := by decide +kernel
theorem dX3_cheapest_38 : decode cX3_cheapest 38 = .ok (.istore_n 3, 1) := by decide +kernel
theorem dX3_cheapest_39 : decode cX3_cheapest 39 = .ok (.iload_n 3, 1) := by decide +kernel
theorem dX3_cheapest_40 : decode cX3_cheapest 40 = .ok (.bipush 6, 2) := by decide +kernel
theorem dX3_cheapest_42 : decode cX3_cheapest 42 = .ok (.if_icmp .ge 40, 3) := by decide +kernel
theorem dX3_cheapest_45 : decode cX3_cheapest 45 = .ok (.iconst 0, 1) := by decide +kernel
theorem dX3_cheapest_46 : decode cX3_cheapest 46 = .ok (.istore 4, 2) := by decide +kernel
theorem dX3_cheapest_48 : decode cX3_cheapest 48 = .ok (.iload 4, 2) := by decide +kernel
theorem dX3_cheapest_50 : decode cX3_cheapest 50 = .ok (.aload_n 0, 1) := by decide +kernel
theorem dX3_cheapest_51 : decode cX3_cheapest 51 = .ok (.getfield 49, 3) := by decide +kernel
theorem dX3_cheapest_54 : decode cX3_cheapest 54 = .ok (.if_icmp .ge 22, 3) := by decide +kernel
theorem dX3_cheapest_57 : decode cX3_cheapest 57 = .ok (.iload 4, 2) := by decide +kernel
theorem dX3_cheapest_59 : decode cX3_cheapest 59 = .ok (.bipush 10, 2) := by decide +kernel
theorem dX3_cheapest_61 : decode cX3_cheapest 61 = .ok (.if_icmp .ge 15, 3) := by decide +kernel
theorem dX3_cheapest_64 : decode cX3_cheapest 64 = .ok (.aload_n 0, 1) := by decide +kernel
theorem dX3_cheapest_65 : decode cX3_cheapest 65 = .ok (.iload 4, 2) := by decide +kernel
theorem dX3_cheapest_67 : decode cX3_cheapest 67 = .ok (.invokevirtual 129, 3) := by decide +kernel
theorem dX3_cheapest_70 : decode cX3_cheapest 70 = .ok (.iinc 4 1, 3) := by decide +kernel
theorem dX3_cheapest_73 : decode cX3_cheapest 73 = .ok (.goto (-25), 3) := by decide +kernel
theorem dX3_cheapest_76 : decode cX3_cheapest 76 = .ok (.iinc 3 1, 3) := by decide +kernel
theorem dX3_cheapest_79 : decode cX3_cheapest 79 = .ok (.goto (-40), 3) := by decide +kernel
theorem dX3_cheapest_82 : decode cX3_cheapest 82 = .ok (.aload_n 0, 1) := by decide +kernel
theorem dX3_cheapest_83 : decode cX3_cheapest 83 = .ok (.getfield 39, 3) := by decide +kernel
theorem dX3_cheapest_86 : decode cX3_cheapest 86 = .ok (.iload_n 2, 1) := by decide +kernel
theorem dX3_cheapest_87 : decode cX3_cheapest 87 = .ok (.iaload, 1) := by decide +kernel
theorem dX3_cheapest_88 : decode cX3_cheapest 88 = .ok (.sipush 999, 3) := by decide +kernel
theorem dX3_cheapest_91 : decode cX3_cheapest 91 = .ok (.if_icmp .le 7, 3) := by decide +kernel
theorem dX3_cheapest_94 : decode cX3_cheapest 94 = .ok (.iconst (-1), 1) := by decide +kernel
theorem dX3_cheapest_95 : decode cX3_cheapest 95 = .ok (.goto 9, 3) := by decide +kernel
theorem dX3_cheapest_98 : decode cX3_cheapest 98 = .ok (.aload_n 0, 1) := by decide +kernel
theorem dX3_cheapest_99 : decode cX3_cheapest 99 = .ok (.getfield 39, 3) := by decide +kernel
theorem dX3_cheapest_102 : decode cX3_cheapest 102 = .ok (.iload_n 2, 1) := by decide +kernel
theorem dX3_cheapest_103 : decode cX3_cheapest 103 = .ok (.iaload, 1) := by decide +kernel
theorem dX3_cheapest_104 : decode cX3_cheapest 104 = .ok (.ireturn, 1) := by decide +kernel
theorem dX3_useFair_0 : decode cX3_useFair 0 = .ok (.iload_n 1, 1) := by decide +kernel
theorem dX3_useFair_1 : decode cX3_useFair 1 = .ok (.ifCond .lt 9, 3) := by decide +kernel
theorem dX3_useFair_4 : decode cX3_useFair 4 = .ok (.iload_n 1, 1) := by decide +kernel
theorem dX3_useFair_5 : decode cX3_useFair 5 = .ok (.bipush 10, 2) := by decide +kernel
theorem dX3_useFair_7 : decode cX3_useFair 7 = .ok (.if_icmp .lt 4, 3) := by decide +kernel
theorem dX3_useFair_10 : decode cX3_useFair 10 = .ok (.return_, 1) := by decide +kernel
theorem dX3_useFair_11 : decode cX3_useFair 11 = .ok (.aload_n 0, 1) := by decide +kernel
theorem dX3_useFair_12 : decode cX3_useFair 12 = .ok (.getfield 30, 3) := by decide +kernel
theorem dX3_useFair_15 : decode cX3_useFair 15 = .ok (.iload_n 1, 1) := by decide +kernel
theorem dX3_useFair_16 : decode cX3_useFair 16 = .ok (.iaload, 1) := by decide +kernel
theorem dX3_useFair_17 : decode cX3_useFair 17 = .ok (.istore_n 2, 1) := by decide +kernel
theorem dX3_useFair_18 : decode cX3_useFair 18 = .ok (.aload_n 0, 1) := by decide +kernel
theorem dX3_useFair_19 : decode cX3_useFair 19 = .ok (.getfield 33, 3) := by decide +kernel
theorem dX3_useFair_22 : decode cX3_useFair 22 = .ok (.iload_n 1, 1) := by decide +kernel
theorem dX3_useFair_23 : decode cX3_useFair 23 = .ok (.iaload, 1) := by decide +kernel
theorem dX3_useFair_24 : decode cX3_useFair 24 = .ok (.istore_n 3, 1) := by decide +kernel
theorem dX3_useFair_25 : decode cX3_useFair 25 = .ok (.iload_n 2, 1) := by decide +kernel
theorem dX3_useFair_26 : decode cX3_useFair 26 = .ok (.ifCond .lt 29, 3) := by decide +kernel
theorem dX3_useFair_29 : decode cX3_useFair 29 = .ok (.iload_n 2, 1) := by decide +kernel
theorem dX3_useFair_30 : decode cX3_useFair 30 = .ok (.bipush 6, 2) := by decide +kernel
theorem dX3_useFair_32 : decode cX3_useFair 32 = .ok (.if_icmp .ge 23, 3) := by decide +kernel
theorem dX3_useFair_35 : decode cX3_useFair 35 = .ok (.iload_n 3, 1) := by decide +kernel
theorem dX3_useFair_36 : decode cX3_useFair 36 = .ok (.ifCond .lt 19, 3) := by decide +kernel
theorem dX3_useFair_39 : decode cX3_useFair 39 = .ok (.iload_n 3, 1) := by decide +kernel
theorem dX3_useFair_40 : decode cX3_useFair 40 = .ok (.bipush 6, 2) := by decide +kernel
theorem dX3_useFair_42 : decode cX3_useFair 42 = .ok (.if_icmp .ge 13, 3) := by decide +kernel
theorem dX3_useFair_45 : decode cX3_useFair 45 = .ok (.aload_n 0, 1) := by decide +kernel
theorem dX3_useFair_46 : decode cX3_useFair 46 = .ok (.getfield 39, 3) := by decide +kernel
theorem dX3_useFair_49 : decode cX3_useFair 49 = .ok (.iload_n 2, 1) := by decide +kernel
theorem dX3_useFair_50 : decode cX3_useFair 50 = .ok (.iaload, 1) := by decide +kernel
theorem dX3_useFair_51 : decode cX3_useFair 51 = .ok (.iconst (-1), 1) := by decide +kernel
theorem dX3_useFair_52 : decode cX3_useFair 52 = .ok (.if_icmp .ne 4, 3) := by decide +kernel
theorem dX3_useFair_55 : decode cX3_useFair 55 = .ok (.return_, 1) := by decide +kernel
theorem dX3_useFair_56 : decode cX3_useFair 56 = .ok (.aload_n 0, 1) := by decide +kernel
theorem dX3_useFair_57 : decode cX3_useFair 57 = .ok (.getfield 39, 3) := by decide +kernel
theorem dX3_useFair_60 : decode cX3_useFair 60 = .ok (.iload_n 2, 1) := by decide +kernel
theorem dX3_useFair_61 : decode cX3_useFair 61 = .ok (.iaload, 1) := by decide +kernel
theorem dX3_useFair_62 : decode cX3_useFair 62 = .ok (.aload_n 0, 1) := by decide +kernel
theorem dX3_useFair_63 : decode cX3_useFair 63 = .ok (.getfield 36, 3) := by decide +kernel
theorem dX3_useFair_66 : decode cX3_useFair 66 = .ok (.iload_n 1, 1) := by decide +kernel
theorem dX3_useFair_67 : decode cX3_useFair 67 = .ok (.iaload, 1) := by decide +kernel
theorem dX3_useFair_68 : decode cX3_useFair 68 = .ok (.imul, 1) := by decide +kernel
theorem dX3_useFair_69 : decode cX3_useFair 69 = .ok (.istore 4, 2) := by decide +kernel
theorem dX3_useFair_71 : decode cX3_useFair 71 = .ok (.aload_n 0, 1) := by decide +kernel
theorem dX3_useFair_72 : decode cX3_useFair 72 = .ok (.getfield 39, 3) := by decide +kernel
theorem dX3_useFair_75 : decode cX3_useFair 75 = .ok (.iload_n 3, 1) := by decide +kernel
theorem dX3_useFair_76 : decode cX3_useFair 76 = .ok (.iaload, 1) := by decide +kernel
theorem dX3_useFair_77 : decode cX3_useFair 77 = .ok (.iconst (-1), 1) := by decide +kernel
theorem dX3_useFair_78 : decode cX3_useFair 78 = .ok (.if_icmp .eq 14, 3) := by decide +kernel
theorem dX3_useFair_81 : decode cX3_useFair 81 = .ok (.iload 4, 2) := by decide +kernel
theorem dX3_useFair_83 : decode cX3_useFair 83 = .ok (.aload_n 0, 1) := by decide +kernel
theorem dX3_useFair_84 : decode cX3_useFair 84 = .ok (.getfield 39, 3) := by decide +kernel
theorem dX3_useFair_87 : decode cX3_useFair 87 = .ok (.iload_n 3, 1) := by decide +kernel
theorem dX3_useFair_88 : decode cX3_useFair 88 = .ok (.iaload, 1) := by decide +kernel
theorem dX3_useFair_89 : decode cX3_useFair 89 = .ok (.if_icmp .ge 11, 3) := by decide +kernel
theorem dX3_useFair_92 : decode cX3_useFair 92 = .ok (.aload_n 0, 1) := by decide +kernel
theorem dX3_useFair_93 : decode cX3_useFair 93 = .ok (.getfield 39, 3) := by decide +kernel
theorem dX3_useFair_96 : decode cX3_useFair 96 = .ok (.iload_n 3, 1) := by decide +kernel
theorem dX3_useFair_97 : decode cX3_useFair 97 = .ok (.iload 4, 2) := by decide +kernel
theorem dX3_useFair_99 : decode cX3_useFair 99 = .ok (.iastore, 1) := by decide +kernel
theorem dX3_useFair_100 : decode cX3_useFair 100 = .ok (.return_, 1) := by decide +kernel
theorem dX4_init_0 : decode cX4_init 0 = .ok (.aload_n 0, 1) := by decide +kernel
theorem dX4_init_1 : decode cX4_init 1 = .ok (.invokespecial 3, 3) := by decide +kernel
theorem dX4_init_4 : decode cX4_init 4 = .ok (.aload_n 0, 1) := by decide +kernel
theorem dX4_init_5 : decode cX4_init 5 = .ok (.sipush 150, 3) := by decide +kernel
theorem dX4_init_8 : decode cX4_init 8 = .ok (.newarray .int, 2) := by decide +kernel
theorem dX4_init_10 : decode cX4_init 10 = .ok (.putfield 9, 3) := by decide +kernel
theorem dX4_init_13 : decode cX4_init 13 = .ok (.aload_n 0, 1) := by decide +kernel
theorem dX4_init_14 : decode cX4_init 14 = .ok (.sipush 150, 3) := by decide +kernel
theorem dX4_init_17 : decode cX4_init 17 = .ok (.newarray .int, 2) := by decide +kernel
theorem dX4_init_19 : decode cX4_init 19 = .ok (.putfield 15, 3) := by decide +kernel
theorem dX4_init_22 : decode cX4_init 22 = .ok (.aload_n 0, 1) := by decide +kernel
theorem dX4_init_23 : decode cX4_init 23 = .ok (.bipush 8, 2) := by decide +kernel
theorem dX4_init_25 : decode cX4_init 25 = .ok (.newarray .int, 2) := by decide +kernel
theorem dX4_init_27 : decode cX4_init 27 = .ok (.putfield 18, 3) := by decide +kernel
theorem dX4_init_30 : decode cX4_init 30 = .ok (.aload_n 0, 1) := by decide +kernel
theorem dX4_init_31 : decode cX4_init 31 = .ok (.iconst 0, 1) := by decide +kernel
theorem dX4_init_32 : decode cX4_init 32 = .ok (.putfield 21, 3) := by decide +kernel
theorem dX4_init_35 : decode cX4_init 35 = .ok (.aload_n 0, 1) := by decide +kernel
theorem dX4_init_36 : decode cX4_init 36 = .ok (.invokevirtual 25, 3) := by decide +kernel
theorem dX4_init_39 : decode cX4_init 39 = .ok (.return_, 1) := by decide +kernel
theorem dX4_setPlain_0 : decode cX4_setPlain 0 = .ok (.aload_n 0, 1) := by decide +kernel
theorem dX4_setPlain_1 : decode cX4_setPlain 1 = .ok (.iconst 0, 1) := by decide +kernel
theorem dX4_setPlain_2 : decode cX4_setPlain 2 = .ok (.putfield 21, 3) := by decide +kernel
theorem dX4_setPlain_5 : decode cX4_setPlain 5 = .ok (.aload_n 0, 1) := by decide +kernel
theorem dX4_setPlain_6 : decode cX4_setPlain 6 = .ok (.iconst 1, 1) := by decide +kernel
theorem dX4_setPlain_7 : decode cX4_setPlain 7 = .ok (.invokevirtual 28, 3) := by decide +kernel
theorem dX4_setPlain_10 : decode cX4_setPlain 10 = .ok (.pop, 1) := by decide +kernel
theorem dX4_setPlain_11 : decode cX4_setPlain 11 = .ok (.aload_n 0, 1) := by decide +kernel
theorem dX4_setPlain_12 : decode cX4_setPlain 12 = .ok (.iconst (-1), 1) := by decide +kernel
theorem dX4_setPlain_13 : decode cX4_setPlain 13 = .ok (.invokevirtual 28, 3) := by decide +kernel
theorem dX4_setPlain_16 : decode cX4_setPlain 16 = .ok (.pop, 1) := by decide +kernel
theorem dX4_setPlain_17 : decode cX4_setPlain 17 = .ok (.aload_n 0, 1) := by decide +kernel
theorem dX4_setPlain_18 : decode cX4_setPlain 18 = .ok (.bipush 10, 2) := by decide +kernel
theorem dX4_setPlain_20 : decode cX4_setPlain 20 = .ok (.invokevirtual 28, 3) := by decide +kernel
theorem dX4_setPlain_23 : decode cX4_setPlain 23 = .ok (.pop, 1) := by decide +kernel
theorem dX4_setPlain_24 : decode cX4_setPlain 24 = .ok (.aload_n 0, 1) := by decide +kernel
theorem dX4_setPlain_25 : decode cX4_setPlain 25 = .ok (.bipush (-12), 2) := by decide +kernel
theorem dX4_setPlain_27 : decode cX4_setPlain 27 = .ok (.invokevirtual 28, 3) := by decide +kernel
theorem dX4_setPlain_30 : decode cX4_setPlain 30 = .ok (.pop, 1) := by decide +kernel
theorem dX4_setPlain_31 : decode cX4_setPlain 31 = .ok (.aload_n 0, 1) := by decide +kernel
theorem dX4_setPlain_32 : decode cX4_setPlain 32 = .ok (.bipush (-9), 2) := by decide +kernel
theorem dX4_setPlain_34 : decode cX4_setPlain 34 = .ok (.invokevirtual 28, 3) := by decide +kernel
theorem dX4_setPlain_37 : decode cX4_setPlain 37 = .ok (.pop, 1) := by decide +kernel
theorem dX4_setPlain_38 : decode cX4_setPlain 38 = .ok (.return_, 1) := by decide +kernel
theorem dX4_take_0 : decode cX4_take 0 = .ok (.aload_n 1, 1) := by decide +kernel
theorem dX4_take_1 : decode cX4_take 1 = .ok (.getfield 9, 3) := by decide +kernel
theorem dX4_take_4 : decode cX4_take 4 = .ok (.iconst 0, 1) := by decide +kernel
theorem dX4_take_5 : decode cX4_take 5 = .ok (.aload_n 0, 1) := by decide +kernel
theorem dX4_take_6 : decode cX4_take 6 = .ok (.getfield 9, 3) := by decide +kernel
theorem dX4_take_9 : decode cX4_take 9 = .ok (.iconst 0, 1) := by decide +kernel
theorem dX4_take_10 : decode cX4_take 10 = .ok (.sipush 150, 3) := by decide +kernel
theorem dX4_take_13 : decode cX4_take 13 = .ok (.invokestatic 32, 3) := by decide +kernel
theorem dX4_take_16 : decode cX4_take 16 = .ok (.aload_n 0, 1) := by decide +kernel
theorem dX4_take_17 : decode cX4_take 17 = .ok (.aload_n 1, 1) := by decide +kernel
theorem dX4_take_18 : decode cX4_take 18 = .ok (.getfield 21, 3) := by decide +kernel
theorem dX4_take_21 : decode cX4_take 21 = .ok (.putfield 21, 3) := by decide +kernel
theorem dX4_take_24 : decode cX4_take 24 = .ok (.return_, 1) := by decide +kernel
theorem dX4_put_0 : decode cX4_put 0 = .ok (.aload_n 0, 1) := by decide +kernel
theorem dX4_put_1 : decode cX4_put 1 = .ok (.getfield 21, 3) := by decide +kernel
theorem dX4_put_4 : decode cX4_put 4 = .ok (.ifCond .lt 33, 3) := by decide +kernel
theorem dX4_put_7 : decode cX4_put 7 = .ok (.aload_n 0, 1) := by decide +kernel
theorem dX4_put_8 : decode cX4_put 8 = .ok (.getfield 21, 3) := by decide +kernel
theorem dX4_put_11 : decode cX4_put 11 = .ok (.sipush 150, 3) := by decide +kernel
theorem dX4_put_14 : decode cX4_put 14 = .ok (.if_icmp .ge 23, 3) := by decide +kernel
theorem dX4_put_17 : decode cX4_put 17 = .ok (.aload_n 0, 1) := by decide +kernel
theorem dX4_put_18 : decode cX4_put 18 = .ok (.getfield 9, 3) := by decide +kernel
theorem dX4_put_21 : decode cX4_put 21 = .ok (.aload_n 0, 1) := by decide +kernel
theorem dX4_put_22 : decode cX4_put 22 = .ok (.getfield 21, 3) := by decide +kernel
theorem dX4_put_25 : decode cX4_put 25 = .ok (.iload_n 1, 1) := by decide +kernel
theorem dX4_put_26 : decode cX4_put 26 = .ok (.iastore, 1) := by decide +kernel
theorem dX4_put_27 : decode cX4_put 27 = .ok (.aload_n 0, 1) := by decide +kernel
theorem dX4_put_28 : decode cX4_put 28 = .ok (.dup, 1) := by decide +kernel
theorem dX4_put_29 : decode cX4_put 29 = .ok (.getfield 21, 3) := by decide +kernel
theorem dX4_put_32 : decode cX4_put 32 = .ok (.iconst 1, 1) := by decide +kernel
theorem dX4_put_33 : decode cX4_put 33 = .ok (.iadd, 1) := by decide +kernel
theorem dX4_put_34 : decode cX4_put 34 = .ok (.putfield 21, 3) := by decide +kernel
theorem dX4_put_37 : decode cX4_put 37 = .ok (.iconst 1, 1) := by decide +kernel
theorem dX4_put_38 : decode cX4_put 38 = .ok (.ireturn, 1) := by decide +kernel
theorem dX4_read_0 : decode cX4_read 0 = .ok (.aload_n 0, 1) := by decide +kernel
theorem dX4_read_1 : decode cX4_read 1 = .ok (.iconst 0, 1) := by decide +kernel
theorem dX4_read_2 : decode cX4_read 2 = .ok (.putfield 21, 3) := by decide +kernel
theorem dX4_read_5 : decode cX4_read 5 = .ok (.aload_n 0, 1) := by decide +kernel
theorem dX4_read_6 : decode cX4_read 6 = .ok (.aload_n 1, 1) := by decide +kernel
theorem dX4_read_7 : decode cX4_read 7 = .ok (.iconst 0, 1) := by decide +kernel
theorem dX4_read_8 : decode cX4_read 8 = .ok (.invokevirtual 38, 3) := by decide +kernel
theorem dX4_read_11 : decode cX4_read 11 = .ok (.ifCond .ne 5, 3) := by decide +kernel
theorem dX4_read_14 : decode cX4_read 14 = .ok (.iconst 0, 1) := by decide +kernel
theorem dX4_read_15 : decode cX4_read 15 = .ok (.ireturn, 1) := by decide +kernel
theorem dX4_read_16 : decode cX4_read 16 = .ok (.aload_n 1, 1) := by decide +kernel
theorem dX4_read_17 : decode cX4_read 17 = .ok (.invokevirtual 42, 3) := by decide +kernel
theorem dX4_read_20 : decode cX4_read 20 = .ok (.ifCond .ne 11, 3) := by decide +kernel
theorem dX4_read_23 : decode cX4_read 23 = .ok (.aload_n 1, 1) := by decide +kernel
theorem dX4_read_24 : decode cX4_read 24 = .ok (.iconst 1, 1) := by decide +kernel
theorem dX4_read_25 : decode cX4_read 25 = .ok (.invokevirtual 48, 3) := by decide +kernel
theorem dX4_read_28 : decode cX4_read 28 = .ok (.ifCond .eq 7, 3) := by decide +kernel
theorem dX4_read_31 : decode cX4_read 31 = .ok (.iconst 1, 1) := by decide +kernel
theorem dX4_read_32 : decode cX4_read 32 = .ok (.goto 4, 3) := by decide +kernel
theorem dX4_read_35 : decode cX4_read 35 = .ok (.iconst 0, 1) := by decide +kernel
theorem dX4_read_36 : decode cX4_read 36 = .ok (.ireturn, 1) := by decide +kernel
theorem dX4_readSum_0 : decode cX4_readSum 0 = .ok (.aload_n 0, 1) := by decide +kernel
theorem dX4_readSum_1 : decode cX4_readSum 1 = .ok (.aload_n 1, 1) := by decide +kernel
theorem dX4_readSum_2 : decode cX4_readSum 2 = .ok (.iload_n 2, 1) := by decide +kernel
theorem dX4_readSum_3 : decode cX4_readSum 3 = .ok (.invokevirtual 51, 3) := by decide +kernel
theorem dX4_readSum_6 : decode cX4_readSum 6 = .ok (.ifCond .ne 5, 3) := by decide +kernel
theorem dX4_readSum_9 : decode cX4_readSum 9 = .ok (.iconst 0, 1) := by decide +kernel
theorem dX4_readSum_10 : decode cX4_readSum 10 = .ok (.ireturn, 1) := by decide +kernel
theorem dX4_readSum_11 : decode cX4_readSum 11 = .ok (.iconst 0, 1) := by decide +kernel
theorem dX4_readSum_12 : decode cX4_readSum 12 = .ok (.istore_n 3, 1) := by decide +kernel
theorem dX4_readSum_13 : decode cX4_readSum 13 = .ok (.iload_n 3, 1) := by decide +kernel
theorem dX4_readSum_14 : decode cX4_readSum 14 = .ok (.aload_n 1, 1) := by decide +kernel
theorem dX4_readSum_15 : decode cX4_readSum 15 = .ok (.getfield 54, 3) := by decide +kernel
theorem dX4_readSum_18 : decode cX4_readSum 18 = .ok (.if_icmp .gt 65, 3) := by decide +kernel
theorem dX4_readSum_21 : decode cX4_readSum 21 = .ok (.aload_n 1, 1) := by decide +kernel
theorem dX4_readSum_22 : decode cX4_readSum 22 = .ok (.bipush 43, 2) := by decide +kernel
theorem dX4_readSum_24 : decode cX4_readSum 24 = .ok (.invokevirtual 57, 3) := by decide +kernel
theorem dX4_readSum_27 : decode cX4_readSum 27 = .ok (.ifCond .eq 8, 3) := by decide +kernel
theorem dX4_readSum_30 : decode cX4_readSum 30 = .ok (.bipush (-9), 2) := by decide +kernel
theorem dX4_readSum_32 : decode cX4_readSum 32 = .ok (.goto 18, 3) := by decide +kernel
theorem dX4_readSum_35 : decode cX4_readSum 35 = .ok (.aload_n 1, 1) := by decide +kernel
theorem dX4_readSum_36 : decode cX4_readSum 36 = .ok (.bipush 45, 2) := by decide +kernel
theorem dX4_readSum_38 : decode cX4_readSum 38 = .ok (.invokevirtual 57, 3) := by decide +kernel
theorem dX4_readSum_41 : decode cX4_readSum 41 = .ok (.ifCond .eq 8, 3) := by decide +kernel
theorem dX4_readSum_44 : decode cX4_readSum 44 = .ok (.bipush (-10), 2) := by decide +kernel
theorem dX4_readSum_46 : decode cX4_readSum 46 = .ok (.goto 4, 3) := by decide +kernel
theorem dX4_readSum_49 : decode cX4_readSum 49 = .ok (.iconst 0, 1) := by decide +kernel
theorem dX4_readSum_50 : decode cX4_readSum 50 = .ok (.istore 4, 2) := by decide +kernel
theorem dX4_readSum_52 : decode cX4_readSum 52 = .ok (.iload 4, 2) := by decide +kernel
theorem dX4_readSum_54 : decode cX4_readSum 54 = .ok (.ifCond .ne 5, 3) := by decide +kernel
theorem dX4_readSum_57 : decode cX4_readSum 57 = .ok (.iconst 1, 1) := by decide +kernel
theorem dX4_readSum_58 : decode cX4_readSum 58 = .ok (.ireturn, 1) := by decide +kernel
theorem dX4_readSum_59 : decode cX4_readSum 59 = .ok (.aload_n 0, 1) := by decide +kernel
theorem dX4_readSum_60 : decode cX4_readSum 60 = .ok (.aload_n 1, 1) := by decide +kernel
theorem dX4_readSum_61 : decode cX4_readSum 61 = .ok (.iload_n 2, 1) := by decide +kernel
theorem dX4_readSum_62 : decode cX4_readSum 62 = .ok (.invokevirtual 51, 3) := by decide +kernel
theorem dX4_readSum_65 : decode cX4_readSum 65 = .ok (.ifCond .ne 5, 3) := by decide +kernel
theorem dX4_readSum_68 : decode cX4_readSum 68 = .ok (.iconst 0, 1) := by decide +kernel
theorem dX4_readSum_69 : decode cX4_readSum 69 = .ok (.ireturn, 1) := by decide +kernel
theorem dX4_readSum_70 : decode cX4_readSum 70 = .ok (.aload_n 0, 1) := by decide +kernel
theorem dX4_readSum_71 : decode cX4_readSum 71 = .ok (.iload 4, 2) := by decide +kernel
theorem dX4_readSum_73 : decode cX4_readSum 73 = .ok (.invokevirtual 28, 3) := by decide +kernel
theorem dX4_readSum_76 : decode cX4_readSum 76 = .ok (.pop, 1) := by decide +kernel
theorem dX4_readSum_77 : decode cX4_readSum 77 = .ok (.iinc 3 1, 3) := by decide +kernel
theorem dX4_readSum_80 : decode cX4_readSum 80 = .ok (.goto (-67), 3) := by decide +kernel
theorem dX4_readSum_83 : decode cX4_readSum 83 = .ok (.iconst 1, 1) := by decide +kernel
theorem dX4_readSum_84 : decode cX4_readSum 84 = .ok (.ireturn, 1) := by decide +kernel
theorem dX4_readProduct_0 : decode cX4_readProduct 0 = .ok (.aload_n 0, 1) := by decide +kernel
theorem dX4_readProduct_1 : decode cX4_readProduct 1 = .ok (.aload_n 1, 1) := by decide +kernel
theorem dX4_readProduct_2 : decode cX4_readProduct 2 = .ok (.iload_n 2, 1) := by decide +kernel
theorem dX4_readProduct_3 : decode cX4_readProduct 3 = .ok (.invokevirtual 61, 3) := by decide +kernel
theorem dX4_readProduct_6 : decode cX4_readProduct 6 = .ok (.ifCond .ne 5, 3) := by decide +kernel
theorem dX4_readProduct_9 : decode cX4_readProduct 9 = .ok (.iconst 0, 1) := by decide +kernel
theorem dX4_readProduct_10 : decode cX4_readProduct 10 = .ok (.ireturn, 1) := by decide +kernel
theorem dX4_readProduct_11 : decode cX4_readProduct 11 = .ok (.iconst 0, 1) := by decide +kernel
theorem dX4_readProduct_12 : decode cX4_readProduct 12 = .ok (.istore_n 3, 1) := by decide +kernel
theorem dX4_readProduct_13 : decode cX4_readProduct 13 = .ok (.iload_n 3, 1) := by decide +kernel
theorem dX4_readProduct_14 : decode cX4_readProduct 14 = .ok (.aload_n 1, 1) := by decide +kernel
theorem dX4_readProduct_15 : decode cX4_readProduct 15 = .ok (.getfield 54, 3) := by decide +kernel
theorem dX4_readProduct_18 : decode cX4_readProduct 18 = .ok (.if_icmp .gt 79, 3) := by decide +kernel
theorem dX4_readProduct_21 : decode cX4_readProduct 21 = .ok (.aload_n 1, 1) := by decide +kernel
theorem dX4_readProduct_22 : decode cX4_readProduct 22 = .ok (.bipush 42, 2) := by decide +kernel
theorem dX4_readProduct_24 : decode cX4_readProduct 24 = .ok (.invokevirtual 57, 3) := by decide +kernel
theorem dX4_readProduct_27 : decode cX4_readProduct 27 = .ok (.ifCond .eq 8, 3) := by decide +kernel
theorem dX4_readProduct_30 : decode cX4_readProduct 30 = .ok (.bipush (-11), 2) := by decide +kernel
theorem dX4_readProduct_32 : decode cX4_readProduct 32 = .ok (.goto 32, 3) := by decide +kernel
theorem dX4_readProduct_35 : decode cX4_readProduct 35 = .ok (.aload_n 1, 1) := by decide +kernel
theorem dX4_readProduct_36 : decode cX4_readProduct 36 = .ok (.bipush 47, 2) := by decide +kernel
theorem dX4_readProduct_38 : decode cX4_readProduct 38 = .ok (.invokevirtual 57, 3) := by decide +kernel
theorem dX4_readProduct_41 : decode cX4_readProduct 41 = .ok (.ifCond .eq 8, 3) := by decide +kernel
theorem dX4_readProduct_44 : decode cX4_readProduct 44 = .ok (.bipush (-12), 2) := by decide +kernel
theorem dX4_readProduct_46 : decode cX4_readProduct 46 = .ok (.goto 18, 3) := by decide +kernel
theorem dX4_readProduct_49 : decode cX4_readProduct 49 = .ok (.aload_n 1, 1) := by decide +kernel
theorem dX4_readProduct_50 : decode cX4_readProduct 50 = .ok (.bipush 37, 2) := by decide +kernel
theorem dX4_readProduct_52 : decode cX4_readProduct 52 = .ok (.invokevirtual 57, 3) := by decide +kernel
theorem dX4_readProduct_55 : decode cX4_readProduct 55 = .ok (.ifCond .eq 8, 3) := by decide +kernel
theorem dX4_readProduct_58 : decode cX4_readProduct 58 = .ok (.bipush (-13), 2) := by decide +kernel
theorem dX4_readProduct_60 : decode cX4_readProduct 60 = .ok (.goto 4, 3) := by decide +kernel
theorem dX4_readProduct_63 : decode cX4_readProduct 63 = .ok (.iconst 0, 1) := by decide +kernel
theorem dX4_readProduct_64 : decode cX4_readProduct 64 = .ok (.istore 4, 2) := by decide +kernel
theorem dX4_readProduct_66 : decode cX4_readProduct 66 = .ok (.iload 4, 2) := by decide +kernel
theorem dX4_readProduct_68 : decode cX4_readProduct 68 = .ok (.ifCond .ne 5, 3) := by decide +kernel
theorem dX4_readProduct_71 : decode cX4_readProduct 71 = .ok (.iconst 1, 1) := by decide +kernel
theorem dX4_readProduct_72 : decode cX4_readProduct 72 = .ok (.ireturn, 1) := by decide +kernel
theorem dX4_readProduct_73 : decode cX4_readProduct 73 = .ok (.aload_n 0, 1) := by decide +kernel
theorem dX4_readProduct_74 : decode cX4_readProduct 74 = .ok (.aload_n 1, 1) := by decide +kernel
theorem dX4_readProduct_75 : decode cX4_readProduct 75 = .ok (.iload_n 2, 1) := by decide +kernel
theorem dX4_readProduct_76 : decode cX4_readProduct 76 = .ok (.invokevirtual 61, 3) := by decide +kernel
theorem dX4_readProduct_79 : decode cX4_readProduct 79 = .ok (.ifCond .ne 5, 3) := by decide +kernel
theorem dX4_readProduct_82 : decode cX4_readProduct 82 = .ok (.iconst 0, 1) := by decide +kernel
theorem dX4_readProduct_83 : decode cX4_readProduct 83 = .ok (.ireturn, 1) := by decide +kernel
theorem dX4_readProduct_84 : decode cX4_readProduct 84 = .ok (.aload_n 0, 1) := by decide +kernel
theorem dX4_readProduct_85 : decode cX4_readProduct 85 = .ok (.iload 4, 2) := by decide +kernel
theorem dX4_readProduct_87 : decode cX4_readProduct 87 = .ok (.invokevirtual 28, 3) := by decide +kernel
theorem dX4_readProduct_90 : decode cX4_readProduct 90 = .ok (.pop, 1) := by decide +kernel
theorem dX4_readProduct_91 : decode cX4_readProduct 91 = .ok (.iinc 3 1, 3) := by decide +kernel
theorem dX4_readProduct_94 : decode cX4_readProduct 94 = .ok (.goto (-81), 3) := by decide +kernel
theorem dX4_readProduct_97 : decode cX4_readProduct 97 = .ok (.iconst 1, 1) := by decide +kernel
theorem dX4_readProduct_98 : decode cX4_readProduct 98 = .ok (.ireturn, 1) := by decide +kernel
theorem dX4_readUnit_0 : decode cX4_readUnit 0 = .ok (.aload_n 1, 1) := by decide +kernel
theorem dX4_readUnit_1 : decode cX4_readUnit 1 = .ok (.invokevirtual 64, 3) := by decide +kernel
theorem dX4_readUnit_4 : decode cX4_readUnit 4 = .ok (.ifCond .eq 31, 3) := by decide +kernel
theorem dX4_readUnit_7 : decode cX4_readUnit 7 = .ok (.aload_n 1, 1) := by decide +kernel
theorem dX4_readUnit_8 : decode cX4_readUnit 8 = .ok (.iconst 0, 1) := by decide +kernel
theorem dX4_readUnit_9 : decode cX4_readUnit 9 = .ok (.sipush 999, 3) := by decide +kernel
theorem dX4_readUnit_12 : decode cX4_readUnit 12 = .ok (.invokevirtual 67, 3) := by decide +kernel
theorem dX4_readUnit_15 : decode cX4_readUnit 15 = .ok (.istore_n 3, 1) := by decide +kernel
theorem dX4_readUnit_16 : decode cX4_readUnit 16 = .ok (.iload_n 3, 1) := by decide +kernel
theorem dX4_readUnit_17 : decode cX4_readUnit 17 = .ok (.iconst (-1), 1) := by decide +kernel
theorem dX4_readUnit_18 : decode cX4_readUnit 18 = .ok (.if_icmp .eq 15, 3) := by decide +kernel
theorem dX4_readUnit_21 : decode cX4_readUnit 21 = .ok (.aload_n 0, 1) := by decide +kernel
theorem dX4_readUnit_22 : decode cX4_readUnit 22 = .ok (.iload_n 3, 1) := by decide +kernel
theorem dX4_readUnit_23 : decode cX4_readUnit 23 = .ok (.invokevirtual 28, 3) := by decide +kernel
theorem dX4_readUnit_26 : decode cX4_readUnit 26 = .ok (.ifCond .eq 7, 3) := by decide +kernel
theorem dX4_readUnit_29 : decode cX4_readUnit 29 = .ok (.iconst 1, 1) := by decide +kernel
theorem dX4_readUnit_30 : decode cX4_readUnit 30 = .ok (.goto 4, 3) := by decide +kernel
theorem dX4_readUnit_33 : decode cX4_readUnit 33 = .ok (.iconst 0, 1) := by decide +kernel
theorem dX4_readUnit_34 : decode cX4_readUnit 34 = .ok (.ireturn, 1) := by decide +kernel
theorem dX4_readUnit_35 : decode cX4_readUnit 35 = .ok (.aload_n 1, 1) := by decide +kernel
theorem dX4_readUnit_36 : decode cX4_readUnit 36 = .ok (.bipush 40, 2) := by decide +kernel
theorem dX4_readUnit_38 : decode cX4_readUnit 38 = .ok (.invokevirtual 57, 3) := by decide +kernel
theorem dX4_readUnit_41 : decode cX4_readUnit 41 = .ok (.ifCond .eq 41, 3) := by decide +kernel
theorem dX4_readUnit_44 : decode cX4_readUnit 44 = .ok (.iload_n 2, 1) := by decide +kernel
theorem dX4_readUnit_45 : decode cX4_readUnit 45 = .ok (.bipush 6, 2) := by decide +kernel
theorem dX4_readUnit_47 : decode cX4_readUnit 47 = .ok (.if_icmp .lt 9, 3) := by decide +kernel
theorem dX4_readUnit_50 : decode cX4_readUnit 50 = .ok (.aload_n 1, 1) := by decide +kernel
theorem dX4_readUnit_51 : decode cX4_readUnit 51 = .ok (.iconst 3, 1) := by decide +kernel
theorem dX4_readUnit_52 : decode cX4_readUnit 52 = .ok (.invokevirtual 48, 3) := by decide +kernel
theorem dX4_readUnit_55 : decode cX4_readUnit 55 = .ok (.ireturn, 1) := by decide +kernel
theorem dX4_readUnit_56 : decode cX4_readUnit 56 = .ok (.aload_n 0, 1) := by decide +kernel
theorem dX4_readUnit_57 : decode cX4_readUnit 57 = .ok (.aload_n 1, 1) := by decide +kernel
theorem dX4_readUnit_58 : decode cX4_readUnit 58 = .ok (.iload_n 2, 1) := by decide +kernel
theorem dX4_readUnit_59 : decode cX4_readUnit 59 = .ok (.iconst 1, 1) := by decide +kernel
theorem dX4_readUnit_60 : decode cX4_readUnit 60 = .ok (.iadd, 1) := by decide +kernel
theorem dX4_readUnit_61 : decode cX4_readUnit 61 = .ok (.invokevirtual 38, 3) := by decide +kernel
theorem dX4_readUnit_64 : decode cX4_readUnit 64 = .ok (.ifCond .eq 16, 3) := by decide +kernel
theorem dX4_readUnit_67 : decode cX4_readUnit 67 = .ok (.aload_n 1, 1) := by decide +kernel
theorem dX4_readUnit_68 : decode cX4_readUnit 68 = .ok (.bipush 41, 2) := by decide +kernel
theorem dX4_readUnit_70 : decode cX4_readUnit 70 = .ok (.invokevirtual 71, 3) := by decide +kernel
theorem dX4_readUnit_73 : decode cX4_readUnit 73 = .ok (.ifCond .eq 7, 3) := by decide +kernel
theorem dX4_readUnit_76 : decode cX4_readUnit 76 = .ok (.iconst 1, 1) := by decide +kernel
theorem dX4_readUnit_77 : decode cX4_readUnit 77 = .ok (.goto 4, 3) := by decide +kernel
theorem dX4_readUnit_80 : decode cX4_readUnit 80 = .ok (.iconst 0, 1) := by decide +kernel
theorem dX4_readUnit_81 : decode cX4_readUnit 81 = .ok (.ireturn, 1) := by decide +kernel
theorem dX4_readUnit_82 : decode cX4_readUnit 82 = .ok (.aload_n 1, 1) := by decide +kernel
theorem dX4_readUnit_83 : decode cX4_readUnit 83 = .ok (.ldc 74, 2) := by decide +kernel
theorem dX4_readUnit_85 : decode cX4_readUnit 85 = .ok (.invokevirtual 76, 3) := by decide +kernel
theorem dX4_readUnit_88 : decode cX4_readUnit 88 = .ok (.ifCond .eq 12, 3) := by decide +kernel
theorem dX4_readUnit_91 : decode cX4_readUnit 91 = .ok (.aload_n 0, 1) := by decide +kernel
theorem dX4_readUnit_92 : decode cX4_readUnit 92 = .ok (.aload_n 1, 1) := by decide +kernel
theorem dX4_readUnit_93 : decode cX4_readUnit 93 = .ok (.iload_n 2, 1) := by decide +kernel
theorem dX4_readUnit_94 : decode cX4_readUnit 94 = .ok (.bipush (-14), 2) := by decide +kernel
theorem dX4_readUnit_96 : decode cX4_readUnit 96 = .ok (.invokevirtual 80, 3) := by decide +kernel
theorem dX4_readUnit_99 : decode cX4_readUnit 99 = .ok (.ireturn, 1) := by decide +kernel
theorem dX4_readUnit_100 : decode cX4_readUnit 100 = .ok (.aload_n 1, 1) := by decide +kernel
theorem dX4_readUnit_101 : decode cX4_readUnit 101 = .ok (.ldc 84, 2) := by decide +kernel
theorem dX4_readUnit_103 : decode cX4_readUnit 103 = .ok (.invokevirtual 76, 3) := by decide +kernel
theorem dX4_readUnit_106 : decode cX4_readUnit 106 = .ok (.ifCond .eq 12, 3) := by decide +kernel
theorem dX4_readUnit_109 : decode cX4_readUnit 109 = .ok (.aload_n 0, 1) := by decide +kernel
theorem dX4_readUnit_110 : decode cX4_readUnit 110 = .ok (.aload_n 1, 1) := by decide +kernel
theorem dX4_readUnit_111 : decode cX4_readUnit 111 = .ok (.iload_n 2, 1) := by decide +kernel
theorem dX4_readUnit_112 : decode cX4_readUnit 112 = .ok (.bipush (-15), 2) := by decide +kernel
theorem dX4_readUnit_114 : decode cX4_readUnit 114 = .ok (.invokevirtual 80, 3) := by decide +kernel
theorem dX4_readUnit_117 : decode cX4_readUnit 117 = .ok (.ireturn, 1) := by decide +kernel
theorem dX4_readUnit_118 : decode cX4_readUnit 118 = .ok (.aload_n 1, 1) := by decide +kernel
theorem dX4_readUnit_119 : decode cX4_readUnit 119 = .ok (.invokestatic 86, 3) := by decide +kernel
theorem dX4_readUnit_122 : decode cX4_readUnit 122 = .ok (.istore_n 3, 1) := by decide +kernel
theorem dX4_readUnit_123 : decode cX4_readUnit 123 = .ok (.iload_n 3, 1) := by decide +kernel
theorem dX4_readUnit_124 : decode cX4_readUnit 124 = .ok (.ifCond .ne 11, 3) := by decide +kernel
theorem dX4_readUnit_127 : decode cX4_readUnit 127 = .ok (.aload_n 1, 1) := by decide +kernel
theorem dX4_readUnit_128 : decode cX4_readUnit 128 = .ok (.iconst 1, 1) := by decide +kernel
theorem dX4_readUnit_129 : decode cX4_readUnit 129 = .ok (.invokevirtual 48, 3) := by decide +kernel
theorem dX4_readUnit_132 : decode cX4_readUnit 132 = .ok (.goto 8, 3) := by decide +kernel
theorem dX4_readUnit_135 : decode cX4_readUnit 135 = .ok (.aload_n 0, 1) := by decide +kernel
theorem dX4_readUnit_136 : decode cX4_readUnit 136 = .ok (.iload_n 3, 1) := by decide +kernel
theorem dX4_readUnit_137 : decode cX4_readUnit 137 = .ok (.invokevirtual 28, 3) := by decide +kernel
theorem dX4_readUnit_140 : decode cX4_readUnit 140 = .ok (.ireturn, 1) := by decide +kernel
theorem dX4_readPair_0 : decode cX4_readPair 0 = .ok (.iload_n 2, 1) := by decide +kernel
theorem dX4_readPair_1 : decode cX4_readPair 1 = .ok (.bipush 6, 2) := by decide +kernel
theorem dX4_readPair_3 : decode cX4_readPair 3 = .ok (.if_icmp .lt 9, 3) := by decide +kernel
theorem dX4_readPair_6 : decode cX4_readPair 6 = .ok (.aload_n 1, 1) := by decide +kernel
theorem dX4_readPair_7 : decode cX4_readPair 7 = .ok (.iconst 3, 1) := by decide +kernel
theorem dX4_readPair_8 : decode cX4_readPair 8 = .ok (.invokevirtual 48, 3) := by decide +kernel
theorem dX4_readPair_11 : decode cX4_readPair 11 = .ok (.ireturn, 1) := by decide +kernel
theorem dX4_readPair_12 : decode cX4_readPair 12 = .ok (.aload_n 1, 1) := by decide +kernel
theorem dX4_readPair_13 : decode cX4_readPair 13 = .ok (.bipush 91, 2) := by decide +kernel
theorem dX4_readPair_15 : decode cX4_readPair 15 = .ok (.invokevirtual 71, 3) := by decide +kernel
theorem dX4_readPair_18 : decode cX4_readPair 18 = .ok (.ifCond .eq 55, 3) := by decide +kernel
theorem dX4_readPair_21 : decode cX4_readPair 21 = .ok (.aload_n 0, 1) := by decide +kernel
theorem dX4_readPair_22 : decode cX4_readPair 22 = .ok (.aload_n 1, 1) := by decide +kernel
theorem dX4_readPair_23 : decode cX4_readPair 23 = .ok (.iload_n 2, 1) := by decide +kernel
theorem dX4_readPair_24 : decode cX4_readPair 24 = .ok (.iconst 1, 1) := by decide +kernel
theorem dX4_readPair_25 : decode cX4_readPair 25 = .ok (.iadd, 1) := by decide +kernel
theorem dX4_readPair_26 : decode cX4_readPair 26 = .ok (.invokevirtual 38, 3) := by decide +kernel
theorem dX4_readPair_29 : decode cX4_readPair 29 = .ok (.ifCond .eq 44, 3) := by decide +kernel
theorem dX4_readPair_32 : decode cX4_readPair 32 = .ok (.aload_n 1, 1) := by decide +kernel
theorem dX4_readPair_33 : decode cX4_readPair 33 = .ok (.bipush 44, 2) := by decide +kernel
theorem dX4_readPair_35 : decode cX4_readPair 35 = .ok (.invokevirtual 71, 3) := by decide +kernel
theorem dX4_readPair_38 : decode cX4_readPair 38 = .ok (.ifCond .eq 35, 3) := by decide +kernel
theorem dX4_readPair_41 : decode cX4_readPair 41 = .ok (.aload_n 0, 1) := by decide +kernel
theorem dX4_readPair_42 : decode cX4_readPair 42 = .ok (.aload_n 1, 1) := by decide +kernel
theorem dX4_readPair_43 : decode cX4_readPair 43 = .ok (.iload_n 2, 1) := by decide +kernel
theorem dX4_readPair_44 : decode cX4_readPair 44 = .ok (.iconst 1, 1) := by decide +kernel
theorem dX4_readPair_45 : decode cX4_readPair 45 = .ok (.iadd, 1) := by decide +kernel
theorem dX4_readPair_46 : decode cX4_readPair 46 = .ok (.invokevirtual 38, 3) := by decide +kernel
theorem dX4_readPair_49 : decode cX4_readPair 49 = .ok (.ifCond .eq 24, 3) := by decide +kernel
theorem dX4_readPair_52 : decode cX4_readPair 52 = .ok (.aload_n 1, 1) := by decide +kernel
theorem dX4_readPair_53 : decode cX4_readPair 53 = .ok (.bipush 93, 2) := by decide +kernel
theorem dX4_readPair_55 : decode cX4_readPair 55 = .ok (.invokevirtual 71, 3) := by decide +kernel
theorem dX4_readPair_58 : decode cX4_readPair 58 = .ok (.ifCond .eq 15, 3) := by decide +kernel
theorem dX4_readPair_61 : decode cX4_readPair 61 = .ok (.aload_n 0, 1) := by decide +kernel
theorem dX4_readPair_62 : decode cX4_readPair 62 = .ok (.iload_n 3, 1) := by decide +kernel
theorem dX4_readPair_63 : decode cX4_readPair 63 = .ok (.invokevirtual 28, 3) := by decide +kernel
theorem dX4_readPair_66 : decode cX4_readPair 66 = .ok (.ifCond .eq 7, 3) := by decide +kernel
theorem dX4_readPair_69 : decode cX4_readPair 69 = .ok (.iconst 1, 1) := by decide +kernel
theorem dX4_readPair_70 : decode cX4_readPair 70 = .ok (.goto 4, 3) := by decide +kernel
theorem dX4_readPair_73 : decode cX4_readPair 73 = .ok (.iconst 0, 1) := by decide +kernel
theorem dX4_readPair_74 : decode cX4_readPair 74 = .ok (.ireturn, 1) := by decide +kernel
theorem dX4_readFact_0 : decode cX4_readFact 0 = .ok (.aload_n 0, 1) := by decide +kernel
theorem dX4_readFact_1 : decode cX4_readFact 1 = .ok (.ldc 90, 2) := by decide +kernel
theorem dX4_readFact_3 : decode cX4_readFact 3 = .ok (.invokevirtual 76, 3) := by decide +kernel
theorem dX4_readFact_6 : decode cX4_readFact 6 = .ok (.ifCond .eq 5, 3) := by decide +kernel
theorem dX4_readFact_9 : decode cX4_readFact 9 = .ok (.iconst (-1), 1) := by decide +kernel
theorem dX4_readFact_10 : decode cX4_readFact 10 = .ok (.ireturn, 1) := by decide +kernel
theorem dX4_readFact_11 : decode cX4_readFact 11 = .ok (.aload_n 0, 1) := by decide +kernel
theorem dX4_readFact_12 : decode cX4_readFact 12 = .ok (.ldc 92, 2) := by decide +kernel
theorem dX4_readFact_14 : decode cX4_readFact 14 = .ok (.invokevirtual 76, 3) := by decide +kernel
theorem dX4_readFact_17 : decode cX4_readFact 17 = .ok (.ifCond .eq 6, 3) := by decide +kernel
theorem dX4_readFact_20 : decode cX4_readFact 20 = .ok (.bipush (-2), 2) := by decide +kernel
theorem dX4_readFact_22 : decode cX4_readFact 22 = .ok (.ireturn, 1) := by decide +kernel
theorem dX4_readFact_23 : decode cX4_readFact 23 = .ok (.aload_n 0, 1) := by decide +kernel
theorem dX4_readFact_24 : decode cX4_readFact 24 = .ok (.ldc 94, 2) := by decide +kernel
theorem dX4_readFact_26 : decode cX4_readFact 26 = .ok (.invokevirtual 76, 3) := by decide +kernel
theorem dX4_readFact_29 : decode cX4_readFact 29 = .ok (.ifCond .eq 6, 3) := by decide +kernel
theorem dX4_readFact_32 : decode cX4_readFact 32 = .ok (.bipush (-3), 2) := by decide +kernel
theorem dX4_readFact_34 : decode cX4_readFact 34 = .ok (.ireturn, 1) := by decide +kernel
theorem dX4_readFact_35 : decode cX4_readFact 35 = .ok (.aload_n 0, 1) := by decide +kernel
theorem dX4_readFact_36 : decode cX4_readFact 36 = .ok (.ldc 96, 2) := by decide +kernel
theorem dX4_readFact_38 : decode cX4_readFact 38 = .ok (.invokevirtual 76, 3) := by decide +kernel
theorem dX4_readFact_41 : decode cX4_readFact 41 = .ok (.ifCond .eq 6, 3) := by decide +kernel
theorem dX4_readFact_44 : decode cX4_readFact 44 = .ok (.bipush (-4), 2) := by decide +kernel
theorem dX4_readFact_46 : decode cX4_readFact 46 = .ok (.ireturn, 1) := by decide +kernel
theorem dX4_readFact_47 : decode cX4_readFact 47 = .ok (.aload_n 0, 1) := by decide +kernel
theorem dX4_readFact_48 : decode cX4_readFact 48 = .ok (.ldc 98, 2) := by decide +kernel
theorem dX4_readFact_50 : decode cX4_readFact 50 = .ok (.invokevirtual 76, 3) := by decide +kernel
theorem dX4_readFact_53 : decode cX4_readFact 53 = .ok (.ifCond .eq 6, 3) := by decide +kernel
theorem dX4_readFact_56 : decode cX4_readFact 56 = .ok (.bipush (-5), 2) := by decide +kernel
theorem dX4_readFact_58 : decode cX4_readFact 58 = .ok (.ireturn, 1) := by decide +kernel
theorem dX4_readFact_59 : decode cX4_readFact 59 = .ok (.aload_n 0, 1) := by decide +kernel
theorem dX4_readFact_60 : decode cX4_readFact 60 = .ok (.ldc 100, 2) := by decide +kernel
theorem dX4_readFact_62 : decode cX4_readFact 62 = .ok (.invokevirtual 76, 3) := by decide +kernel
theorem dX4_readFact_65 : decode cX4_readFact 65 = .ok (.ifCond .eq 6, 3) := by decide +kernel
theorem dX4_readFact_68 : decode cX4_readFact 68 = .ok (.bipush (-6), 2) := by decide +kernel
theorem dX4_readFact_70 : decode cX4_readFact 70 = .ok (.ireturn, 1) := by decide +kernel
theorem dX4_readFact_71 : decode cX4_readFact 71 = .ok (.aload_n 0, 1) := by decide +kernel
theorem dX4_readFact_72 : decode cX4_readFact 72 = .ok (.ldc 102, 2) := by decide +kernel
theorem dX4_readFact_74 : decode cX4_readFact 74 = .ok (.invokevirtual 76, 3) := by decide +kernel
theorem dX4_readFact_77 : decode cX4_readFact 77 = .ok (.ifCond .eq 6, 3) := by decide +kernel
theorem dX4_readFact_80 : decode cX4_readFact 80 = .ok (.bipush (-7), 2) := by decide +kernel
theorem dX4_readFact_82 : decode cX4_readFact 82 = .ok (.ireturn, 1) := by decide +kernel
theorem dX4_readFact_83 : decode cX4_readFact 83 = .ok (.aload_n 0, 1) := by decide +kernel
theorem dX4_readFact_84 : decode cX4_readFact 84 = .ok (.ldc 104, 2) := by decide +kernel
theorem dX4_readFact_86 : decode cX4_readFact 86 = .ok (.invokevirtual 76, 3) := by decide +kernel
theorem dX4_readFact_89 : decode cX4_readFact 89 = .ok (.ifCond .eq 8, 3) := by decide +kernel
theorem dX4_readFact_92 : decode cX4_readFact 92 = .ok (.bipush (-8), 2) := by decide +kernel
theorem dX4_readFact_94 : decode cX4_readFact 94 = .ok (.goto 4, 3) := by decide +kernel
theorem dX4_readFact_97 : decode cX4_readFact 97 = .ok (.iconst 0, 1) := by decide +kernel
theorem dX4_readFact_98 : decode cX4_readFact 98 = .ok (.ireturn, 1) := by decide +kernel
theorem dX4_tellBeast_0 : decode cX4_tellBeast 0 = .ok (.aload_n 0, 1) := by decide +kernel
theorem dX4_tellBeast_1 : decode cX4_tellBeast 1 = .ok (.getfield 18, 3) := by decide +kernel
theorem dX4_tellBeast_4 : decode cX4_tellBeast 4 = .ok (.iconst 0, 1) := by decide +kernel
theorem dX4_tellBeast_5 : decode cX4_tellBeast 5 = .ok (.iload_n 1, 1) := by decide +kernel
theorem dX4_tellBeast_6 : decode cX4_tellBeast 6 = .ok (.iastore, 1) := by decide +kernel
theorem dX4_tellBeast_7 : decode cX4_tellBeast 7 = .ok (.aload_n 0, 1) := by decide +kernel
theorem dX4_tellBeast_8 : decode cX4_tellBeast 8 = .ok (.getfield 18, 3) := by decide +kernel
theorem dX4_tellBeast_11 : decode cX4_tellBeast 11 = .ok (.iconst 1, 1) := by decide +kernel
theorem dX4_tellBeast_12 : decode cX4_tellBeast 12 = .ok (.iload_n 2, 1) := by decide +kernel
theorem dX4_tellBeast_13 : decode cX4_tellBeast 13 = .ok (.iastore, 1) := by decide +kernel
theorem dX4_tellBeast_14 : decode cX4_tellBeast 14 = .ok (.aload_n 0, 1) := by decide +kernel
theorem dX4_tellBeast_15 : decode cX4_tellBeast 15 = .ok (.getfield 18, 3) := by decide +kernel
theorem dX4_tellBeast_18 : decode cX4_tellBeast 18 = .ok (.iconst 2, 1) := by decide +kernel
theorem dX4_tellBeast_19 : decode cX4_tellBeast 19 = .ok (.iload_n 3, 1) := by decide +kernel
theorem dX4_tellBeast_20 : decode cX4_tellBeast 20 = .ok (.iastore, 1) := by decide +kernel
theorem dX4_tellBeast_21 : decode cX4_tellBeast 21 = .ok (.aload_n 0, 1) := by decide +kernel
theorem dX4_tellBeast_22 : decode cX4_tellBeast 22 = .ok (.getfield 18, 3) := by decide +kernel
theorem dX4_tellBeast_25 : decode cX4_tellBeast 25 = .ok (.bipush 7, 2) := by decide +kernel
theorem dX4_tellBeast_27 : decode cX4_tellBeast 27 = .ok (.iload 4, 2) := by decide +kernel
theorem dX4_tellBeast_29 : decode cX4_tellBeast 29 = .ok (.iastore, 1) := by decide +kernel
theorem dX4_tellBeast_30 : decode cX4_tellBeast 30 = .ok (.return_, 1) := by decide +kernel
theorem dX4_tellPlace_0 : decode cX4_tellPlace 0 = .ok (.aload_n 0, 1) := by decide +kernel
theorem dX4_tellPlace_1 : decode cX4_tellPlace 1 = .ok (.getfield 18, 3) := by decide +kernel
theorem dX4_tellPlace_4 : decode cX4_tellPlace 4 = .ok (.iconst 3, 1) := by decide +kernel
theorem dX4_tellPlace_5 : decode cX4_tellPlace 5 = .ok (.iload_n 1, 1) := by decide +kernel
theorem dX4_tellPlace_6 : decode cX4_tellPlace 6 = .ok (.iastore, 1) := by decide +kernel
theorem dX4_tellPlace_7 : decode cX4_tellPlace 7 = .ok (.aload_n 0, 1) := by decide +kernel
theorem dX4_tellPlace_8 : decode cX4_tellPlace 8 = .ok (.getfield 18, 3) := by decide +kernel
theorem dX4_tellPlace_11 : decode cX4_tellPlace 11 = .ok (.iconst 4, 1) := by decide +kernel
theorem dX4_tellPlace_12 : decode cX4_tellPlace 12 = .ok (.iload_n 2, 1) := by decide +kernel
theorem dX4_tellPlace_13 : decode cX4_tellPlace 13 = .ok (.iastore, 1) := by decide +kernel
theorem dX4_tellPlace_14 : decode cX4_tellPlace 14 = .ok (.aload_n 0, 1) := by decide +kernel
theorem dX4_tellPlace_15 : decode cX4_tellPlace 15 = .ok (.getfield 18, 3) := by decide +kernel
theorem dX4_tellPlace_18 : decode cX4_tellPlace 18 = .ok (.iconst 5, 1) := by decide +kernel
theorem dX4_tellPlace_19 : decode cX4_tellPlace 19 = .ok (.iload_n 3, 1) := by decide +kernel
theorem dX4_tellPlace_20 : decode cX4_tellPlace 20 = .ok (.iastore, 1) := by decide +kernel
theorem dX4_tellPlace_21 : decode cX4_tellPlace 21 = .ok (.aload_n 0, 1) := by decide +kernel
theorem dX4_tellPlace_22 : decode cX4_tellPlace 22 = .ok (.getfield 18, 3) := by decide +kernel
theorem dX4_tellPlace_25 : decode cX4_tellPlace 25 = .ok (.bipush 6, 2) := by decide +kernel
theorem dX4_tellPlace_27 : decode cX4_tellPlace 27 = .ok (.iload 4, 2) := by decide +kernel
theorem dX4_tellPlace_29 : decode cX4_tellPlace 29 = .ok (.iastore, 1) := by decide +kernel
theorem dX4_tellPlace_30 : decode cX4_tellPlace 30 = .ok (.return_, 1) := by decide +kernel
theorem dX4_eaten_0 : decode cX4_eaten 0 = .ok (.iconst 0, 1) := by decide +kernel
theorem dX4_eaten_1 : decode cX4_eaten 1 = .ok (.istore_n 1, 1) := by decide +kernel
theorem dX4_eaten_2 : decode cX4_eaten 2 = .ok (.iconst 0, 1) := by decide +kernel
theorem dX4_eaten_3 : decode cX4_eaten 3 = .ok (.istore_n 2, 1) := by decide +kernel
theorem dX4_eaten_4 : decode cX4_eaten 4 = .ok (.iload_n 2, 1) := by decide +kernel
theorem dX4_eaten_5 : decode cX4_eaten 5 = .ok (.aload_n 0, 1) := by decide +kernel
theorem dX4_eaten_6 : decode cX4_eaten 6 = .ok (.getfield 21, 3) := by decide +kernel
theorem dX4_eaten_9 : decode cX4_eaten 9 = .ok (.if_icmp .ge 98, 3) := by decide +kernel
theorem dX4_eaten_12 : decode cX4_eaten 12 = .ok (.iload_n 2, 1) := by decide +kernel
theorem dX4_eaten_13 : decode cX4_eaten 13 = .ok (.sipush 150, 3) := by decide +kernel
theorem dX4_eaten_16 : decode cX4_eaten 16 = .ok (.if_icmp .ge 91, 3) := by decide +kernel
theorem dX4_eaten_19 : decode cX4_eaten 19 = .ok (.aload_n 0, 1) := by decide +kernel
theorem dX4_eaten_20 : decode cX4_eaten 20 = .ok (.getfield 9, 3) := by decide +kernel
theorem dX4_eaten_23 : decode cX4_eaten 23 = .ok (.iload_n 2, 1) := by decide +kernel
theorem dX4_eaten_24 : decode cX4_eaten 24 = .ok (.iaload, 1) := by decide +kernel
theorem dX4_eaten_25 : decode cX4_eaten 25 = .ok (.istore_n 3, 1) := by decide +kernel
theorem dX4_eaten_26 : decode cX4_eaten 26 = .ok (.iload_n 3, 1) := by decide +kernel
theorem dX4_eaten_27 : decode cX4_eaten 27 = .ok (.bipush (-8), 2) := by decide +kernel
theorem dX4_eaten_29 : decode cX4_eaten 29 = .ok (.if_icmp .lt 38, 3) := by decide +kernel
theorem dX4_eaten_32 : decode cX4_eaten 32 = .ok (.iload_n 1, 1) := by decide +kernel
theorem dX4_eaten_33 : decode cX4_eaten 33 = .ok (.sipush 150, 3) := by decide +kernel
theorem dX4_eaten_36 : decode cX4_eaten 36 = .ok (.if_icmp .ge 65, 3) := by decide +kernel
theorem dX4_eaten_39 : decode cX4_eaten 39 = .ok (.aload_n 0, 1) := by decide +kernel
theorem dX4_eaten_40 : decode cX4_eaten 40 = .ok (.getfield 15, 3) := by decide +kernel
theorem dX4_eaten_43 : decode cX4_eaten 43 = .ok (.iload_n 1, 1) := by decide +kernel
theorem dX4_eaten_44 : decode cX4_eaten 44 = .ok (.iload_n 3, 1) := by decide +kernel
theorem dX4_eaten_45 : decode cX4_eaten 45 = .ok (.ifCond .lt 7, 3) := by decide +kernel
theorem dX4_eaten_48 : decode cX4_eaten 48 = .ok (.iload_n 3, 1) := by decide +kernel
theorem dX4_eaten_49 : decode cX4_eaten 49 = .ok (.goto 11, 3) := by decide +kernel
theorem dX4_eaten_52 : decode cX4_eaten 52 = .ok (.aload_n 0, 1) := by decide +kernel
theorem dX4_eaten_53 : decode cX4_eaten 53 = .ok (.getfield 18, 3) := by decide +kernel
theorem dX4_eaten_56 : decode cX4_eaten 56 = .ok (.iconst (-1), 1) := by decide +kernel
theorem dX4_eaten_57 : decode cX4_eaten 57 = .ok (.iload_n 3, 1) := by decide +kernel
theorem dX4_eaten_58 : decode cX4_eaten 58 = .ok (.isub, 1) := by decide +kernel
theorem dX4_eaten_59 : decode cX4_eaten 59 = .ok (.iaload, 1) := by decide +kernel
theorem dX4_eaten_60 : decode cX4_eaten 60 = .ok (.iastore, 1) := by decide +kernel
theorem dX4_eaten_61 : decode cX4_eaten 61 = .ok (.iinc 1 1, 3) := by decide +kernel
theorem dX4_eaten_64 : decode cX4_eaten 64 = .ok (.goto 37, 3) := by decide +kernel
theorem dX4_eaten_67 : decode cX4_eaten 67 = .ok (.iload_n 1, 1) := by decide +kernel
theorem dX4_eaten_68 : decode cX4_eaten 68 = .ok (.iconst 2, 1) := by decide +kernel
theorem dX4_eaten_69 : decode cX4_eaten 69 = .ok (.if_icmp .lt 32, 3) := by decide +kernel
theorem dX4_eaten_72 : decode cX4_eaten 72 = .ok (.iinc 1 (-1), 3) := by decide +kernel
theorem dX4_eaten_75 : decode cX4_eaten 75 = .ok (.aload_n 0, 1) := by decide +kernel
theorem dX4_eaten_76 : decode cX4_eaten 76 = .ok (.getfield 15, 3) := by decide +kernel
theorem dX4_eaten_79 : decode cX4_eaten 79 = .ok (.iload_n 1, 1) := by decide +kernel
theorem dX4_eaten_80 : decode cX4_eaten 80 = .ok (.iconst 1, 1) := by decide +kernel
theorem dX4_eaten_81 : decode cX4_eaten 81 = .ok (.isub, 1) := by decide +kernel
theorem dX4_eaten_82 : decode cX4_eaten 82 = .ok (.iload_n 3, 1) := by decide +kernel
theorem dX4_eaten_83 : decode cX4_eaten 83 = .ok (.aload_n 0, 1) := by decide +kernel
theorem dX4_eaten_84 : decode cX4_eaten 84 = .ok (.getfield 15, 3) := by decide +kernel
theorem dX4_eaten_87 : decode cX4_eaten 87 = .ok (.iload_n 1, 1) := by decide +kernel
theorem dX4_eaten_88 : decode cX4_eaten 88 = .ok (.iconst 1, 1) := by decide +kernel
theorem dX4_eaten_89 : decode cX4_eaten 89 = .ok (.isub, 1) := by decide +kernel
theorem dX4_eaten_90 : decode cX4_eaten 90 = .ok (.iaload, 1) := by decide +kernel
theorem dX4_eaten_91 : decode cX4_eaten 91 = .ok (.aload_n 0, 1) := by decide +kernel
theorem dX4_eaten_92 : decode cX4_eaten 92 = .ok (.getfield 15, 3) := by decide +kernel
theorem dX4_eaten_95 : decode cX4_eaten 95 = .ok (.iload_n 1, 1) := by decide +kernel
theorem dX4_eaten_96 : decode cX4_eaten 96 = .ok (.iaload, 1) := by decide +kernel
theorem dX4_eaten_97 : decode cX4_eaten 97 = .ok (.invokestatic 106, 3) := by decide +kernel
theorem dX4_eaten_100 : decode cX4_eaten 100 = .ok (.iastore, 1) := by decide +kernel
theorem dX4_eaten_101 : decode cX4_eaten 101 = .ok (.iinc 2 1, 3) := by decide +kernel
theorem dX4_eaten_104 : decode cX4_eaten 104 = .ok (.goto (-100), 3) := by decide +kernel
theorem dX4_eaten_107 : decode cX4_eaten 107 = .ok (.iconst 0, 1) := by decide +kernel
theorem dX4_eaten_108 : decode cX4_eaten 108 = .ok (.bipush 20, 2) := by decide +kernel
theorem dX4_eaten_110 : decode cX4_eaten 110 = .ok (.aload_n 0, 1) := by decide +kernel
theorem dX4_eaten_111 : decode cX4_eaten 111 = .ok (.getfield 15, 3) := by decide +kernel
theorem dX4_eaten_114 : decode cX4_eaten 114 = .ok (.iconst 0, 1) := by decide +kernel
theorem dX4_eaten_115 : decode cX4_eaten 115 = .ok (.iaload, 1) := by decide +kernel
theorem dX4_eaten_116 : decode cX4_eaten 116 = .ok (.invokestatic 110, 3) := by decide +kernel
theorem dX4_eaten_119 : decode cX4_eaten 119 = .ok (.invokestatic 115, 3) := by decide +kernel
theorem dX4_eaten_122 : decode cX4_eaten 122 = .ok (.ireturn, 1) := by decide +kernel
theorem dX4_reckon_0 : decode cX4_reckon 0 = .ok (.iload_n 0, 1) := by decide +kernel
theorem dX4_reckon_1 : decode cX4_reckon 1 = .ok (.tableswitch 86 (-14) (-9) #[75, 63, 51, 47, 43, 39], 39) := by decide +kernel
theorem dX4_reckon_40 : decode cX4_reckon 40 = .ok (.iload_n 1, 1) := by decide +kernel
theorem dX4_reckon_41 : decode cX4_reckon 41 = .ok (.iload_n 2, 1) := by decide +kernel
theorem dX4_reckon_42 : decode cX4_reckon 42 = .ok (.iadd, 1) := by decide +kernel
theorem dX4_reckon_43 : decode cX4_reckon 43 = .ok (.ireturn, 1) := by decide +kernel
theorem dX4_reckon_44 : decode cX4_reckon 44 = .ok (.iload_n 1, 1) := by decide +kernel
theorem dX4_reckon_45 : decode cX4_reckon 45 = .ok (.iload_n 2, 1) := by decide +kernel
theorem dX4_reckon_46 : decode cX4_reckon 46 = .ok (.isub, 1) := by decide +kernel
theorem dX4_reckon_47 : decode cX4_reckon 47 = .ok (.ireturn, 1) := by decide +kernel
theorem dX4_reckon_48 : decode cX4_reckon 48 = .ok (.iload_n 1, 1) := by decide +kernel
theorem dX4_reckon_49 : decode cX4_reckon 49 = .ok (.iload_n 2, 1) := by decide +kernel
theorem dX4_reckon_50 : decode cX4_reckon 50 = .ok (.imul, 1) := by decide +kernel
theorem dX4_reckon_51 : decode cX4_reckon 51 = .ok (.ireturn, 1) := by decide +kernel
theorem dX4_reckon_52 : decode cX4_reckon 52 = .ok (.iload_n 2, 1) := by decide +kernel
theorem dX4_reckon_53 : decode cX4_reckon 53 = .ok (.ifCond .ne 7, 3) := by decide +kernel
theorem dX4_reckon_56 : decode cX4_reckon 56 = .ok (.iconst 0, 1) := by decide +kernel
theorem dX4_reckon_57 : decode cX4_reckon 57 = .ok (.goto 6, 3) := by decide +kernel
theorem dX4_reckon_60 : decode cX4_reckon 60 = .ok (.iload_n 1, 1) := by decide +kernel
theorem dX4_reckon_61 : decode cX4_reckon 61 = .ok (.iload_n 2, 1) := by decide +kernel
theorem dX4_reckon_62 : decode cX4_reckon 62 = .ok (.idiv, 1) := by decide +kernel
theorem dX4_reckon_63 : decode cX4_reckon 63 = .ok (.ireturn, 1) := by decide +kernel
theorem dX4_reckon_64 : decode cX4_reckon 64 = .ok (.iload_n 2, 1) := by decide +kernel
theorem dX4_reckon_65 : decode cX4_reckon 65 = .ok (.ifCond .ne 7, 3) := by decide +kernel
theorem dX4_reckon_68 : decode cX4_reckon 68 = .ok (.iconst 0, 1) := by decide +kernel
theorem dX4_reckon_69 : decode cX4_reckon 69 = .ok (.goto 6, 3) := by decide +kernel
theorem dX4_reckon_72 : decode cX4_reckon 72 = .ok (.iload_n 1, 1) := by decide +kernel
theorem dX4_reckon_73 : decode cX4_reckon 73 = .ok (.iload_n 2, 1) := by decide +kernel
theorem dX4_reckon_74 : decode cX4_reckon 74 = .ok (.irem, 1) := by decide +kernel
theorem dX4_reckon_75 : decode cX4_reckon 75 = .ok (.ireturn, 1) := by decide +kernel
theorem dX4_reckon_76 : decode cX4_reckon 76 = .ok (.iload_n 1, 1) := by decide +kernel
theorem dX4_reckon_77 : decode cX4_reckon 77 = .ok (.iload_n 2, 1) := by decide +kernel
theorem dX4_reckon_78 : decode cX4_reckon 78 = .ok (.if_icmp .ge 7, 3) := by decide +kernel
theorem dX4_reckon_81 : decode cX4_reckon 81 = .ok (.iload_n 1, 1) := by decide +kernel
theorem dX4_reckon_82 : decode cX4_reckon 82 = .ok (.goto 4, 3) := by decide +kernel
theorem dX4_reckon_85 : decode cX4_reckon 85 = .ok (.iload_n 2, 1) := by decide +kernel
theorem dX4_reckon_86 : decode cX4_reckon 86 = .ok (.ireturn, 1) := by decide +kernel
theorem dX4_reckon_87 : decode cX4_reckon 87 = .ok (.iload_n 1, 1) := by decide +kernel
theorem dX4_reckon_88 : decode cX4_reckon 88 = .ok (.iload_n 2, 1) := by decide +kernel
theorem dX4_reckon_89 : decode cX4_reckon 89 = .ok (.if_icmp .le 7, 3) := by decide +kernel
theorem dX4_reckon_92 : decode cX4_reckon 92 = .ok (.iload_n 1, 1) := by decide +kernel
theorem dX4_reckon_93 : decode cX4_reckon 93 = .ok (.goto 4, 3) := by decide +kernel
theorem dX4_reckon_96 : decode cX4_reckon 96 = .ok (.iload_n 2, 1) := by decide +kernel
theorem dX4_reckon_97 : decode cX4_reckon 97 = .ok (.ireturn, 1) := by decide +kernel
theorem dX5_init_0 : decode cX5_init 0 = .ok (.aload_n 0, 1) := by decide +kernel
theorem dX5_init_1 : decode cX5_init 1 = .ok (.invokespecial 3, 3) := by decide +kernel
theorem dX5_init_4 : decode cX5_init 4 = .ok (.aload_n 0, 1) := by decide +kernel
theorem dX5_init_5 : decode cX5_init 5 = .ok (.bipush 6, 2) := by decide +kernel
theorem dX5_init_7 : decode cX5_init 7 = .ok (.newarray .int, 2) := by decide +kernel
theorem dX5_init_9 : decode cX5_init 9 = .ok (.putfield 9, 3) := by decide +kernel
theorem dX5_init_12 : decode cX5_init 12 = .ok (.aload_n 0, 1) := by decide +kernel
theorem dX5_init_13 : decode cX5_init 13 = .ok (.bipush 13, 2) := by decide +kernel
theorem dX5_init_15 : decode cX5_init 15 = .ok (.newarray .int, 2) := by decide +kernel
theorem dX5_init_17 : decode cX5_init 17 = .ok (.putfield 15, 3) := by decide +kernel
theorem dX5_init_20 : decode cX5_init 20 = .ok (.aload_n 0, 1) := by decide +kernel
theorem dX5_init_21 : decode cX5_init 21 = .ok (.bipush 13, 2) := by decide +kernel
theorem dX5_init_23 : decode cX5_init 23 = .ok (.newarray .int, 2) := by decide +kernel
theorem dX5_init_25 : decode cX5_init 25 = .ok (.putfield 18, 3) := by decide +kernel
theorem dX5_init_28 : decode cX5_init 28 = .ok (.aload_n 0, 1) := by decide +kernel
theorem dX5_init_29 : decode cX5_init 29 = .ok (.bipush 13, 2) := by decide +kernel
theorem dX5_init_31 : decode cX5_init 31 = .ok (.newarray .int, 2) := by decide +kernel
theorem dX5_init_33 : decode cX5_init 33 = .ok (.putfield 21, 3) := by decide +kernel
theorem dX5_init_36 : decode cX5_init 36 = .ok (.aload_n 0, 1) := by decide +kernel
theorem dX5_init_37 : decode cX5_init 37 = .ok (.bipush 36, 2) := by decide +kernel
theorem dX5_init_39 : decode cX5_init 39 = .ok (.newarray .int, 2) := by decide +kernel
theorem dX5_init_41 : decode cX5_init 41 = .ok (.putfield 24, 3) := by decide +kernel
theorem dX5_init_44 : decode cX5_init 44 = .ok (.aload_n 0, 1) := by decide +kernel
theorem dX5_init_45 : decode cX5_init 45 = .ok (.bipush 6, 2) := by decide +kernel
theorem dX5_init_47 : decode cX5_init 47 = .ok (.newarray .int, 2) := by decide +kernel
theorem dX5_init_49 : decode cX5_init 49 = .ok (.putfield 27, 3) := by decide +kernel
theorem dX5_init_52 : decode cX5_init 52 = .ok (.aload_n 0, 1) := by decide +kernel
theorem dX5_init_53 : decode cX5_init 53 = .ok (.bipush 13, 2) := by decide +kernel
theorem dX5_init_55 : decode cX5_init 55 = .ok (.newarray .int, 2) := by decide +kernel
theorem dX5_init_57 : decode cX5_init 57 = .ok (.putfield 30, 3) := by decide +kernel
theorem dX5_init_60 : decode cX5_init 60 = .ok (.aload_n 0, 1) := by decide +kernel
theorem dX5_init_61 : decode cX5_init 61 = .ok (.iconst 0, 1) := by decide +kernel
theorem dX5_init_62 : decode cX5_init 62 = .ok (.putfield 33, 3) := by decide +kernel
theorem dX5_init_65 : decode cX5_init 65 = .ok (.aload_n 0, 1) := by decide +kernel
theorem dX5_init_66 : decode cX5_init 66 = .ok (.iconst 0, 1) := by decide +kernel
theorem dX5_init_67 : decode cX5_init 67 = .ok (.putfield 37, 3) := by decide +kernel
theorem dX5_init_70 : decode cX5_init 70 = .ok (.aload_n 0, 1) := by decide +kernel
theorem dX5_init_71 : decode cX5_init 71 = .ok (.iconst 0, 1) := by decide +kernel
theorem dX5_init_72 : decode cX5_init 72 = .ok (.putfield 40, 3) := by decide +kernel
theorem dX5_init_75 : decode cX5_init 75 = .ok (.aload_n 0, 1) := by decide +kernel
theorem dX5_init_76 : decode cX5_init 76 = .ok (.aload_n 1, 1) := by decide +kernel
theorem dX5_init_77 : decode cX5_init 77 = .ok (.putfield 43, 3) := by decide +kernel
theorem dX5_init_80 : decode cX5_init 80 = .ok (.aload_n 0, 1) := by decide +kernel
theorem dX5_init_81 : decode cX5_init 81 = .ok (.aload_n 2, 1) := by decide +kernel
theorem dX5_init_82 : decode cX5_init 82 = .ok (.putfield 47, 3) := by decide +kernel
theorem dX5_init_85 : decode cX5_init 85 = .ok (.aload_n 0, 1) := by decide +kernel
theorem dX5_init_86 : decode cX5_init 86 = .ok (.getfield 18, 3) := by decide +kernel
theorem dX5_init_89 : decode cX5_init 89 = .ok (.iconst (-1), 1) := by decide +kernel
theorem dX5_init_90 : decode cX5_init 90 = .ok (.invokestatic 51, 3) := by decide +kernel
theorem dX5_init_93 : decode cX5_init 93 = .ok (.return_, 1) := by decide +kernel
theorem dX5_begin_0 : decode cX5_begin 0 = .ok (.aload_n 0, 1) := by decide +kernel
theorem dX5_begin_1 : decode cX5_begin 1 = .ok (.getfield 43, 3) := by decide +kernel
theorem dX5_begin_4 : decode cX5_begin 4 = .ok (.getfield 57, 3) := by decide +kernel
theorem dX5_begin_7 : decode cX5_begin 7 = .ok (.iconst 0, 1) := by decide +kernel
theorem dX5_begin_8 : decode cX5_begin 8 = .ok (.aload_n 0, 1) := by decide +kernel
theorem dX5_begin_9 : decode cX5_begin 9 = .ok (.getfield 9, 3) := by decide +kernel
theorem dX5_begin_12 : decode cX5_begin 12 = .ok (.iconst 0, 1) := by decide +kernel
theorem dX5_begin_13 : decode cX5_begin 13 = .ok (.bipush 6, 2) := by decide +kernel
theorem dX5_begin_15 : decode cX5_begin 15 = .ok (.invokestatic 60, 3) := by decide +kernel
theorem dX5_begin_18 : decode cX5_begin 18 = .ok (.iconst 0, 1) := by decide +kernel
theorem dX5_begin_19 : decode cX5_begin 19 = .ok (.istore_n 1, 1) := by decide +kernel
theorem dX5_begin_20 : decode cX5_begin 20 = .ok (.iload_n 1, 1) := by decide +kernel
theorem dX5_begin_21 : decode cX5_begin 21 = .ok (.bipush 13, 2) := by decide +kernel
theorem dX5_begin_23 : decode cX5_begin 23 = .ok (.if_icmp .ge 20, 3) := by decide +kernel
theorem dX5_begin_26 : decode cX5_begin 26 = .ok (.aload_n 0, 1) := by decide +kernel
theorem dX5_begin_27 : decode cX5_begin 27 = .ok (.iload_n 1, 1) := by decide +kernel
theorem dX5_begin_28 : decode cX5_begin 28 = .ok (.invokevirtual 66, 3) := by decide +kernel
theorem dX5_begin_31 : decode cX5_begin 31 = .ok (.aload_n 0, 1) := by decide +kernel
theorem dX5_begin_32 : decode cX5_begin 32 = .ok (.iload_n 1, 1) := by decide +kernel
theorem dX5_begin_33 : decode cX5_begin 33 = .ok (.invokevirtual 70, 3) := by decide +kernel
theorem dX5_begin_36 : decode cX5_begin 36 = .ok (.pop, 1) := by decide +kernel
theorem dX5_begin_37 : decode cX5_begin 37 = .ok (.iinc 1 1, 3) := by decide +kernel
theorem dX5_begin_40 : decode cX5_begin 40 = .ok (.goto (-20), 3) := by decide +kernel
theorem dX5_begin_43 : decode cX5_begin 43 = .ok (.aload_n 0, 1) := by decide +kernel
theorem dX5_begin_44 : decode cX5_begin 44 = .ok (.getfield 24, 3) := by decide +kernel
theorem dX5_begin_47 : decode cX5_begin 47 = .ok (.iconst 0, 1) := by decide +kernel
theorem dX5_begin_48 : decode cX5_begin 48 = .ok (.invokestatic 51, 3) := by decide +kernel
theorem dX5_begin_51 : decode cX5_begin 51 = .ok (.aload_n 0, 1) := by decide +kernel
theorem dX5_begin_52 : decode cX5_begin 52 = .ok (.iconst 0, 1) := by decide +kernel
theorem dX5_begin_53 : decode cX5_begin 53 = .ok (.putfield 37, 3) := by decide +kernel
theorem dX5_begin_56 : decode cX5_begin 56 = .ok (.aload_n 0, 1) := by decide +kernel
theorem dX5_begin_57 : decode cX5_begin 57 = .ok (.iconst 0, 1) := by decide +kernel
theorem dX5_begin_58 : decode cX5_begin 58 = .ok (.putfield 40, 3) := by decide +kernel
theorem dX5_begin_61 : decode cX5_begin 61 = .ok (.return_, 1) := by decide +kernel
theorem dX5_copy_0 : decode cX5_copy 0 = .ok (.aload_n 1, 1) := by decide +kernel
theorem dX5_copy_1 : decode cX5_copy 1 = .ok (.getfield 9, 3) := by decide +kernel
theorem dX5_copy_4 : decode cX5_copy 4 = .ok (.iconst 0, 1) := by decide +kernel
theorem dX5_copy_5 : decode cX5_copy 5 = .ok (.aload_n 0, 1) := by decide +kernel
theorem dX5_copy_6 : decode cX5_copy 6 = .ok (.getfield 9, 3) := by decide +kernel
theorem dX5_copy_9 : decode cX5_copy 9 = .ok (.iconst 0, 1) := by decide +kernel
theorem dX5_copy_10 : decode cX5_copy 10 = .ok (.bipush 6, 2) := by decide +kernel
theorem dX5_copy_12 : decode cX5_copy 12 = .ok (.invokestatic 60, 3) := by decide +kernel
theorem dX5_copy_15 : decode cX5_copy 15 = .ok (.aload_n 1, 1) := by decide +kernel
theorem dX5_copy_16 : decode cX5_copy 16 = .ok (.getfield 15, 3) := by decide +kernel
theorem dX5_copy_19 : decode cX5_copy 19 = .ok (.iconst 0, 1) := by decide +kernel
theorem dX5_copy_20 : decode cX5_copy 20 = .ok (.aload_n 0, 1) := by decide +kernel
theorem dX5_copy_21 : decode cX5_copy 21 = .ok (.getfield 15, 3) := by decide +kernel
theorem dX5_copy_24 : decode cX5_copy 24 = .ok (.iconst 0, 1) := by decide +kernel
theorem dX5_copy_25 : decode cX5_copy 25 = .ok (.bipush 13, 2) := by decide +kernel
theorem dX5_copy_27 : decode cX5_copy 27 = .ok (.invokestatic 60, 3) := by decide +kernel
theorem dX5_copy_30 : decode cX5_copy 30 = .ok (.aload_n 1, 1) := by decide +kernel
theorem dX5_copy_31 : decode cX5_copy 31 = .ok (.getfield 18, 3) := by decide +kernel
theorem dX5_copy_34 : decode cX5_copy 34 = .ok (.iconst 0, 1) := by decide +kernel
theorem dX5_copy_35 : decode cX5_copy 35 = .ok (.aload_n 0, 1) := by decide +kernel
theorem dX5_copy_36 : decode cX5_copy 36 = .ok (.getfield 18, 3) := by decide +kernel
theorem dX5_copy_39 : decode cX5_copy 39 = .ok (.iconst 0, 1) := by decide +kernel
theorem dX5_copy_40 : decode cX5_copy 40 = .ok (.bipush 13, 2) := by decide +kernel
theorem dX5_copy_42 : decode cX5_copy 42 = .ok (.invokestatic 60, 3) := by decide +kernel
theorem dX5_copy_45 : decode cX5_copy 45 = .ok (.aload_n 1, 1) := by decide +kernel
theorem dX5_copy_46 : decode cX5_copy 46 = .ok (.getfield 21, 3) := by decide +kernel
theorem dX5_copy_49 : decode cX5_copy 49 = .ok (.iconst 0, 1) := by decide +kernel
theorem dX5_copy_50 : decode cX5_copy 50 = .ok (.aload_n 0, 1) := by decide +kernel
theorem dX5_copy_51 : decode cX5_copy 51 = .ok (.getfield 21, 3) := by decide +kernel
theorem dX5_copy_54 : decode cX5_copy 54 = .ok (.iconst 0, 1) := by decide +kernel
theorem dX5_copy_55 : decode cX5_copy 55 = .ok (.bipush 13, 2) := by decide +kernel
theorem dX5_copy_57 : decode cX5_copy 57 = .ok (.invokestatic 60, 3) := by decide +kernel
theorem dX5_copy_60 : decode cX5_copy 60 = .ok (.aload_n 1, 1) := by decide +kernel
theorem dX5_copy_61 : decode cX5_copy 61 = .ok (.getfield 24, 3) := by decide +kernel
theorem dX5_copy_64 : decode cX5_copy 64 = .ok (.iconst 0, 1) := by decide +kernel
theorem dX5_copy_65 : decode cX5_copy 65 = .ok (.aload_n 0, 1) := by decide +kernel
theorem dX5_copy_66 : decode cX5_copy 66 = .ok (.getfield 24, 3) := by decide +kernel
theorem dX5_copy_69 : decode cX5_copy 69 = .ok (.iconst 0, 1) := by decide +kernel
theorem dX5_copy_70 : decode cX5_copy 70 = .ok (.bipush 36, 2) := by decide +kernel
theorem dX5_copy_72 : decode cX5_copy 72 = .ok (.invokestatic 60, 3) := by decide +kernel
theorem dX5_copy_75 : decode cX5_copy 75 = .ok (.aload_n 0, 1) := by decide +kernel
theorem dX5_copy_76 : decode cX5_copy 76 = .ok (.aload_n 1, 1) := by decide +kernel
theorem dX5_copy_77 : decode cX5_copy 77 = .ok (.getfield 37, 3) := by decide +kernel
theorem dX5_copy_80 : decode cX5_copy 80 = .ok (.putfield 37, 3) := by decide +kernel
theorem dX5_copy_83 : decode cX5_copy 83 = .ok (.aload_n 0, 1) := by decide +kernel
theorem dX5_copy_84 : decode cX5_copy 84 = .ok (.aload_n 1, 1) := by decide +kernel
theorem dX5_copy_85 : decode cX5_copy 85 = .ok (.getfield 40, 3) := by decide +kernel
theorem dX5_copy_88 : decode cX5_copy 88 = .ok (.putfield 40, 3) := by decide +kernel
theorem dX5_copy_91 : decode cX5_copy 91 = .ok (.return_, 1) := by decide +kernel
theorem dX5_store_0 : decode cX5_store 0 = .ok (.iload_n 2, 1) := by decide +kernel
theorem dX5_store_1 : decode cX5_store 1 = .ok (.ifCond .lt 12, 3) := by decide +kernel
theorem dX5_store_4 : decode cX5_store 4 = .ok (.iload_n 2, 1) := by decide +kernel
theorem dX5_store_5 : decode cX5_store 5 = .ok (.aload_n 1, 1) := by decide +kernel
theorem dX5_store_6 : decode cX5_store 6 = .ok (.arraylength, 1) := by decide +kernel
theorem dX5_store_7 : decode cX5_store 7 = .ok (.bipush 83, 2) := by decide +kernel
theorem dX5_store_9 : decode cX5_store 9 = .ok (.isub, 1) := by decide +kernel
theorem dX5_store_10 : decode cX5_store 10 = .ok (.if_icmp .le 4, 3) := by decide +kernel
theorem dX5_store_13 : decode cX5_store 13 = .ok (.return_, 1) := by decide +kernel
theorem dX5_store_14 : decode cX5_store 14 = .ok (.aload_n 0, 1) := by decide +kernel
theorem dX5_store_15 : decode cX5_store 15 = .ok (.getfield 9, 3) := by decide +kernel
theorem dX5_store_18 : decode cX5_store 18 = .ok (.iconst 0, 1) := by decide +kernel
theorem dX5_store_19 : decode cX5_store 19 = .ok (.aload_n 1, 1) := by decide +kernel
theorem dX5_store_20 : decode cX5_store 20 = .ok (.iload_n 2, 1) := by decide +kernel
theorem dX5_store_21 : decode cX5_store 21 = .ok (.bipush 6, 2) := by decide +kernel
theorem dX5_store_23 : decode cX5_store 23 = .ok (.invokestatic 60, 3) := by decide +kernel
theorem dX5_store_26 : decode cX5_store 26 = .ok (.aload_n 0, 1) := by decide +kernel
theorem dX5_store_27 : decode cX5_store 27 = .ok (.getfield 15, 3) := by decide +kernel
theorem dX5_store_30 : decode cX5_store 30 = .ok (.iconst 0, 1) := by decide +kernel
theorem dX5_store_31 : decode cX5_store 31 = .ok (.aload_n 1, 1) := by decide +kernel
theorem dX5_store_32 : decode cX5_store 32 = .ok (.iload_n 2, 1) := by decide +kernel
theorem dX5_store_33 : decode cX5_store 33 = .ok (.bipush 6, 2) := by decide +kernel
theorem dX5_store_35 : decode cX5_store 35 = .ok (.iadd, 1) := by decide +kernel
theorem dX5_store_36 : decode cX5_store 36 = .ok (.bipush 13, 2) := by decide +kernel
theorem dX5_store_38 : decode cX5_store 38 = .ok (.invokestatic 60, 3) := by decide +kernel
theorem dX5_store_41 : decode cX5_store 41 = .ok (.aload_n 0, 1) := by decide +kernel
theorem dX5_store_42 : decode cX5_store 42 = .ok (.getfield 18, 3) := by decide +kernel
theorem dX5_store_45 : decode cX5_store 45 = .ok (.iconst 0, 1) := by decide +kernel
theorem dX5_store_46 : decode cX5_store 46 = .ok (.aload_n 1, 1) := by decide +kernel
theorem dX5_store_47 : decode cX5_store 47 = .ok (.iload_n 2, 1) := by decide +kernel
theorem dX5_store_48 : decode cX5_store 48 = .ok (.bipush 6, 2) := by decide +kernel
theorem dX5_store_50 : decode cX5_store 50 = .ok (.iadd, 1) := by decide +kernel
theorem dX5_store_51 : decode cX5_store 51 = .ok (.bipush 13, 2) := by decide +kernel
theorem dX5_store_53 : decode cX5_store 53 = .ok (.iadd, 1) := by decide +kernel
theorem dX5_store_54 : decode cX5_store 54 = .ok (.bipush 13, 2) := by decide +kernel
theorem dX5_store_56 : decode cX5_store 56 = .ok (.invokestatic 60, 3) := by decide +kernel
theorem dX5_store_59 : decode cX5_store 59 = .ok (.aload_n 0, 1) := by decide +kernel
theorem dX5_store_60 : decode cX5_store 60 = .ok (.getfield 21, 3) := by decide +kernel
theorem dX5_store_63 : decode cX5_store 63 = .ok (.iconst 0, 1) := by decide +kernel
theorem dX5_store_64 : decode cX5_store 64 = .ok (.aload_n 1, 1) := by decide +kernel
theorem dX5_store_65 : decode cX5_store 65 = .ok (.iload_n 2, 1) := by decide +kernel
theorem dX5_store_66 : decode cX5_store 66 = .ok (.bipush 6, 2) := by decide +kernel
theorem dX5_store_68 : decode cX5_store 68 = .ok (.iadd, 1) := by decide +kernel
theorem dX5_store_69 : decode cX5_store 69 = .ok (.bipush 26, 2) := by decide +kernel
theorem dX5_store_71 : decode cX5_store 71 = .ok (.iadd, 1) := by decide +kernel
theorem dX5_store_72 : decode cX5_store 72 = .ok (.bipush 13, 2) := by decide +kernel
theorem dX5_store_74 : decode cX5_store 74 = .ok (.invokestatic 60, 3) := by decide +kernel
theorem dX5_store_77 : decode cX5_store 77 = .ok (.aload_n 0, 1) := by decide +kernel
theorem dX5_store_78 : decode cX5_store 78 = .ok (.getfield 24, 3) := by decide +kernel
theorem dX5_store_81 : decode cX5_store 81 = .ok (.iconst 0, 1) := by decide +kernel
theorem dX5_store_82 : decode cX5_store 82 = .ok (.aload_n 1, 1) := by decide +kernel
theorem dX5_store_83 : decode cX5_store 83 = .ok (.iload_n 2, 1) := by decide +kernel
theorem dX5_store_84 : decode cX5_store 84 = .ok (.bipush 6, 2) := by decide +kernel
theorem dX5_store_86 : decode cX5_store 86 = .ok (.iadd, 1) := by decide +kernel
theorem dX5_store_87 : decode cX5_store 87 = .ok (.bipush 39, 2) := by decide +kernel
theorem dX5_store_89 : decode cX5_store 89 = .ok (.iadd, 1) := by decide +kernel
theorem dX5_store_90 : decode cX5_store 90 = .ok (.bipush 36, 2) := by decide +kernel
theorem dX5_store_92 : decode cX5_store 92 = .ok (.invokestatic 60, 3) := by decide +kernel
theorem dX5_store_95 : decode cX5_store 95 = .ok (.aload_n 1, 1) := by decide +kernel
theorem dX5_store_96 : decode cX5_store 96 = .ok (.iload_n 2, 1) := by decide +kernel
theorem dX5_store_97 : decode cX5_store 97 = .ok (.bipush 83, 2) := by decide +kernel
theorem dX5_store_99 : decode cX5_store 99 = .ok (.iadd, 1) := by decide +kernel
theorem dX5_store_100 : decode cX5_store 100 = .ok (.iconst 2, 1) := by decide +kernel
theorem dX5_store_101 : decode cX5_store 101 = .ok (.isub, 1) := by decide +kernel
theorem dX5_store_102 : decode cX5_store 102 = .ok (.aload_n 0, 1) := by decide +kernel
theorem dX5_store_103 : decode cX5_store 103 = .ok (.getfield 37, 3) := by decide +kernel
theorem dX5_store_106 : decode cX5_store 106 = .ok (.iastore, 1) := by decide +kernel
theorem dX5_store_107 : decode cX5_store 107 = .ok (.aload_n 1, 1) := by decide +kernel
theorem dX5_store_108 : decode cX5_store 108 = .ok (.iload_n 2, 1) := by decide +kernel
theorem dX5_store_109 : decode cX5_store 109 = .ok (.bipush 83, 2) := by decide +kernel
theorem dX5_store_111 : decode cX5_store 111 = .ok (.iadd, 1) := by decide +kernel
theorem dX5_store_112 : decode cX5_store 112 = .ok (.iconst 1, 1) := by decide +kernel
theorem dX5_store_113 : decode cX5_store 113 = .ok (.isub, 1) := by decide +kernel
theorem dX5_store_114 : decode cX5_store 114 = .ok (.aload_n 0, 1) := by decide +kernel
theorem dX5_store_115 : decode cX5_store 115 = .ok (.getfield 40, 3) := by decide +kernel
theorem dX5_store_118 : decode cX5_store 118 = .ok (.iastore, 1) := by decide +kernel
theorem dX5_store_119 : decode cX5_store 119 = .ok (.return_, 1) := by decide +kernel
theorem dX5_load_0 : decode cX5_load 0 = .ok (.iload_n 2, 1) := by decide +kernel
theorem dX5_load_1 : decode cX5_load 1 = .ok (.ifCond .lt 12, 3) := by decide +kernel
theorem dX5_load_4 : decode cX5_load 4 = .ok (.iload_n 2, 1) := by decide +kernel
theorem dX5_load_5 : decode cX5_load 5 = .ok (.aload_n 1, 1) := by decide +kernel
theorem dX5_load_6 : decode cX5_load 6 = .ok (.arraylength, 1) := by decide +kernel
theorem dX5_load_7 : decode cX5_load 7 = .ok (.bipush 83, 2) := by decide +kernel
theorem dX5_load_9 : decode cX5_load 9 = .ok (.isub, 1) := by decide +kernel
theorem dX5_load_10 : decode cX5_load 10 = .ok (.if_icmp .le 4, 3) := by decide +kernel
theorem dX5_load_13 : decode cX5_load 13 = .ok (.return_, 1) := by decide +kernel
theorem dX5_load_14 : decode cX5_load 14 = .ok (.aload_n 1, 1) := by decide +kernel
theorem dX5_load_15 : decode cX5_load 15 = .ok (.iload_n 2, 1) := by decide +kernel
theorem dX5_load_16 : decode cX5_load 16 = .ok (.aload_n 0, 1) := by decide +kernel
theorem dX5_load_17 : decode cX5_load 17 = .ok (.getfield 9, 3) := by decide +kernel
theorem dX5_load_20 : decode cX5_load 20 = .ok (.iconst 0, 1) := by decide +kernel
theorem dX5_load_21 : decode cX5_load 21 = .ok (.bipush 6, 2) := by decide +kernel
theorem dX5_load_23 : decode cX5_load 23 = .ok (.invokestatic 60, 3) := by decide +kernel
theorem dX5_load_26 : decode cX5_load 26 = .ok (.aload_n 1, 1) := by decide +kernel
theorem dX5_load_27 : decode cX5_load 27 = .ok (.iload_n 2, 1) := by decide +kernel
theorem dX5_load_28 : decode cX5_load 28 = .ok (.bipush 6, 2) := by decide +kernel
theorem dX5_load_30 : decode cX5_load 30 = .ok (.iadd, 1) := by decide +kernel
theorem dX5_load_31 : decode cX5_load 31 = .ok (.aload_n 0, 1) := by decide +kernel
theorem dX5_load_32 : decode cX5_load 32 = .ok (.getfield 15, 3) := by decide +kernel
theorem dX5_load_35 : decode cX5_load 35 = .ok (.iconst 0, 1) := by decide +kernel
theorem dX5_load_36 : decode cX5_load 36 = .ok (.bipush 13, 2) := by decide +kernel
theorem dX5_load_38 : decode cX5_load 38 = .ok (.invokestatic 60, 3) := by decide +kernel
theorem dX5_load_41 : decode cX5_load 41 = .ok (.aload_n 1, 1) := by decide +kernel
theorem dX5_load_42 : decode cX5_load 42 = .ok (.iload_n 2, 1) := by decide +kernel
theorem dX5_load_43 : decode cX5_load 43 = .ok (.bipush 6, 2) := by decide +kernel
theorem dX5_load_45 : decode cX5_load 45 = .ok (.iadd, 1) := by decide +kernel
theorem dX5_load_46 : decode cX5_load 46 = .ok (.bipush 13, 2) := by decide +kernel
theorem dX5_load_48 : decode cX5_load 48 = .ok (.iadd, 1) := by decide +kernel
theorem dX5_load_49 : decode cX5_load 49 = .ok (.aload_n 0, 1) := by decide +kernel
theorem dX5_load_50 : decode cX5_load 50 = .ok (.getfield 18, 3) := by decide +kernel
theorem dX5_load_53 : decode cX5_load 53 = .ok (.iconst 0, 1) := by decide +kernel
theorem dX5_load_54 : decode cX5_load 54 = .ok (.bipush 13, 2) := by decide +kernel
theorem dX5_load_56 : decode cX5_load 56 = .ok (.invokestatic 60, 3) := by decide +kernel
theorem dX5_load_59 : decode cX5_load 59 = .ok (.aload_n 1, 1) := by decide +kernel
theorem dX5_load_60 : decode cX5_load 60 = .ok (.iload_n 2, 1) := by decide +kernel
theorem dX5_load_61 : decode cX5_load 61 = .ok (.bipush 6, 2) := by decide +kernel
theorem dX5_load_63 : decode cX5_load 63 = .ok (.iadd, 1) := by decide +kernel
theorem dX5_load_64 : decode cX5_load 64 = .ok (.bipush 26, 2) := by decide +kernel
theorem dX5_load_66 : decode cX5_load 66 = .ok (.iadd, 1) := by decide +kernel
theorem dX5_load_67 : decode cX5_load 67 = .ok (.aload_n 0, 1) := by decide +kernel
theorem dX5_load_68 : decode cX5_load 68 = .ok (.getfield 21, 3) := by decide +kernel
theorem dX5_load_71 : decode cX5_load 71 = .ok (.iconst 0, 1) := by decide +kernel
theorem dX5_load_72 : decode cX5_load 72 = .ok (.bipush 13, 2) := by decide +kernel
theorem dX5_load_74 : decode cX5_load 74 = .ok (.invokestatic 60, 3) := by decide +kernel
theorem dX5_load_77 : decode cX5_load 77 = .ok (.aload_n 1, 1) := by decide +kernel
theorem dX5_load_78 : decode cX5_load 78 = .ok (.iload_n 2, 1) := by decide +kernel
theorem dX5_load_79 : decode cX5_load 79 = .ok (.bipush 6, 2) := by decide +kernel
theorem dX5_load_81 : decode cX5_load 81 = .ok (.iadd, 1) := by decide +kernel
theorem dX5_load_82 : decode cX5_load 82 = .ok (.bipush 39, 2) := by decide +kernel
theorem dX5_load_84 : decode cX5_load 84 = .ok (.iadd, 1) := by decide +kernel
theorem dX5_load_85 : decode cX5_load 85 = .ok (.aload_n 0, 1) := by decide +kernel
theorem dX5_load_86 : decode cX5_load 86 = .ok (.getfield 24, 3) := by decide +kernel
theorem dX5_load_89 : decode cX5_load 89 = .ok (.iconst 0, 1) := by decide +kernel
theorem dX5_load_90 : decode cX5_load 90 = .ok (.bipush 36, 2) := by decide +kernel
theorem dX5_load_92 : decode cX5_load 92 = .ok (.invokestatic 60, 3) := by decide +kernel
theorem dX5_load_95 : decode cX5_load 95 = .ok (.aload_n 0, 1) := by decide +kernel
theorem dX5_load_96 : decode cX5_load 96 = .ok (.aload_n 1, 1) := by decide +kernel
theorem dX5_load_97 : decode cX5_load 97 = .ok (.iload_n 2, 1) := by decide +kernel
theorem dX5_load_98 : decode cX5_load 98 = .ok (.bipush 83, 2) := by decide +kernel
theorem dX5_load_100 : decode cX5_load 100 = .ok (.iadd, 1) := by decide +kernel
theorem dX5_load_101 : decode cX5_load 101 = .ok (.iconst 2, 1) := by decide +kernel
theorem dX5_load_102 : decode cX5_load 102 = .ok (.isub, 1) := by decide +kernel
theorem dX5_load_103 : decode cX5_load 103 = .ok (.iaload, 1) := by decide +kernel
theorem dX5_load_104 : decode cX5_load 104 = .ok (.putfield 37, 3) := by decide +kernel
theorem dX5_load_107 : decode cX5_load 107 = .ok (.aload_n 0, 1) := by decide +kernel
theorem dX5_load_108 : decode cX5_load 108 = .ok (.aload_n 1, 1) := by decide +kernel
theorem dX5_load_109 : decode cX5_load 109 = .ok (.iload_n 2, 1) := by decide +kernel
theorem dX5_load_110 : decode cX5_load 110 = .ok (.bipush 83, 2) := by decide +kernel
theorem dX5_load_112 : decode cX5_load 112 = .ok (.iadd, 1) := by decide +kernel
theorem dX5_load_113 : decode cX5_load 113 = .ok (.iconst 1, 1) := by decide +kernel
theorem dX5_load_114 : decode cX5_load 114 = .ok (.isub, 1) := by decide +kernel
theorem dX5_load_115 : decode cX5_load 115 = .ok (.iaload, 1) := by decide +kernel
theorem dX5_load_116 : decode cX5_load 116 = .ok (.putfield 40, 3) := by decide +kernel
theorem dX5_load_119 : decode cX5_load 119 = .ok (.return_, 1) := by decide +kernel
theorem dX5_askBack_0 : decode cX5_askBack 0 = .ok (.aload_n 0, 1) := by decide +kernel
theorem dX5_askBack_1 : decode cX5_askBack 1 = .ok (.iload_n 1, 1) := by decide +kernel
theorem dX5_askBack_2 : decode cX5_askBack 2 = .ok (.invokevirtual 74, 3) := by decide +kernel
theorem dX5_askBack_5 : decode cX5_askBack 5 = .ok (.ifCond .ne 5, 3) := by decide +kernel
theorem dX5_askBack_8 : decode cX5_askBack 8 = .ok (.iconst 0, 1) := by decide +kernel
theorem dX5_askBack_9 : decode cX5_askBack 9 = .ok (.ireturn, 1) := by decide +kernel
theorem dX5_askBack_10 : decode cX5_askBack 10 = .ok (.aload_n 0, 1) := by decide +kernel
theorem dX5_askBack_11 : decode cX5_askBack 11 = .ok (.iload_n 1, 1) := by decide +kernel
theorem dX5_askBack_12 : decode cX5_askBack 12 = .ok (.invokevirtual 66, 3) := by decide +kernel
theorem dX5_askBack_15 : decode cX5_askBack 15 = .ok (.iconst 1, 1) := by decide +kernel
theorem dX5_askBack_16 : decode cX5_askBack 16 = .ok (.ireturn, 1) := by decide +kernel
theorem dX5_driveOver_0 : decode cX5_driveOver 0 = .ok (.aload_n 0, 1) := by decide +kernel
theorem dX5_driveOver_1 : decode cX5_driveOver 1 = .ok (.iload_n 1, 1) := by decide +kernel
theorem dX5_driveOver_2 : decode cX5_driveOver 2 = .ok (.invokevirtual 74, 3) := by decide +kernel
theorem dX5_driveOver_5 : decode cX5_driveOver 5 = .ok (.ifCond .eq 24, 3) := by decide +kernel
theorem dX5_driveOver_8 : decode cX5_driveOver 8 = .ok (.aload_n 0, 1) := by decide +kernel
theorem dX5_driveOver_9 : decode cX5_driveOver 9 = .ok (.getfield 43, 3) := by decide +kernel
theorem dX5_driveOver_12 : decode cX5_driveOver 12 = .ok (.iload_n 2, 1) := by decide +kernel
theorem dX5_driveOver_13 : decode cX5_driveOver 13 = .ok (.invokevirtual 77, 3) := by decide +kernel
theorem dX5_driveOver_16 : decode cX5_driveOver 16 = .ok (.ifCond .eq 13, 3) := by decide +kernel
theorem dX5_driveOver_19 : decode cX5_driveOver 19 = .ok (.aload_n 0, 1) := by decide +kernel
theorem dX5_driveOver_20 : decode cX5_driveOver 20 = .ok (.getfield 18, 3) := by decide +kernel
theorem dX5_driveOver_23 : decode cX5_driveOver 23 = .ok (.iload_n 1, 1) := by decide +kernel
theorem dX5_driveOver_24 : decode cX5_driveOver 24 = .ok (.iaload, 1) := by decide +kernel
theorem dX5_driveOver_25 : decode cX5_driveOver 25 = .ok (.iload_n 2, 1) := by decide +kernel
theorem dX5_driveOver_26 : decode cX5_driveOver 26 = .ok (.if_icmp .ne 5, 3) := by decide +kernel
theorem dX5_driveOver_29 : decode cX5_driveOver 29 = .ok (.iconst 0, 1) := by decide +kernel
theorem dX5_driveOver_30 : decode cX5_driveOver 30 = .ok (.ireturn, 1) := by decide +kernel
theorem dX5_driveOver_31 : decode cX5_driveOver 31 = .ok (.aload_n 0, 1) := by decide +kernel
theorem dX5_driveOver_32 : decode cX5_driveOver 32 = .ok (.getfield 18, 3) := by decide +kernel
theorem dX5_driveOver_35 : decode cX5_driveOver 35 = .ok (.iload_n 1, 1) := by decide +kernel
theorem dX5_driveOver_36 : decode cX5_driveOver 36 = .ok (.iload_n 2, 1) := by decide +kernel
theorem dX5_driveOver_37 : decode cX5_driveOver 37 = .ok (.iastore, 1) := by decide +kernel
theorem dX5_driveOver_38 : decode cX5_driveOver 38 = .ok (.iconst 1, 1) := by decide +kernel
theorem dX5_driveOver_39 : decode cX5_driveOver 39 = .ok (.ireturn, 1) := by decide +kernel
theorem dX5_slay_0 : decode cX5_slay 0 = .ok (.aload_n 0, 1) := by decide +kernel
theorem dX5_slay_1 : decode cX5_slay 1 = .ok (.iload_n 1, 1) := by decide +kernel
theorem dX5_slay_2 : decode cX5_slay 2 = .ok (.invokevirtual 74, 3) := by decide +kernel
theorem dX5_slay_5 : decode cX5_slay 5 = .ok (.ifCond .ne 5, 3) := by decide +kernel
theorem dX5_slay_8 : decode cX5_slay 8 = .ok (.iconst 0, 1) := by decide +kernel
theorem dX5_slay_9 : decode cX5_slay 9 = .ok (.ireturn, 1) := by decide +kernel
theorem dX5_slay_10 : decode cX5_slay 10 = .ok (.aload_n 0, 1) := by decide +kernel
theorem dX5_slay_11 : decode cX5_slay 11 = .ok (.iload_n 1, 1) := by decide +kernel
theorem dX5_slay_12 : decode cX5_slay 12 = .ok (.invokevirtual 66, 3) := by decide +kernel
theorem dX5_slay_15 : decode cX5_slay 15 = .ok (.aload_n 0, 1) := by decide +kernel
theorem dX5_slay_16 : decode cX5_slay 16 = .ok (.aload_n 0, 1) := by decide +kernel
theorem dX5_slay_17 : decode cX5_slay 17 = .ok (.getfield 43, 3) := by decide +kernel
theorem dX5_slay_20 : decode cX5_slay 20 = .ok (.iload_n 1, 1) := by decide +kernel
theorem dX5_slay_21 : decode cX5_slay 21 = .ok (.invokevirtual 80, 3) := by decide +kernel
theorem dX5_slay_24 : decode cX5_slay 24 = .ok (.aload_n 0, 1) := by decide +kernel
theorem dX5_slay_25 : decode cX5_slay 25 = .ok (.getfield 43, 3) := by decide +kernel
theorem dX5_slay_28 : decode cX5_slay 28 = .ok (.iload_n 1, 1) := by decide +kernel
theorem dX5_slay_29 : decode cX5_slay 29 = .ok (.invokevirtual 84, 3) := by decide +kernel
theorem dX5_slay_32 : decode cX5_slay 32 = .ok (.invokevirtual 87, 3) := by decide +kernel
theorem dX5_slay_35 : decode cX5_slay 35 = .ok (.iconst 1, 1) := by decide +kernel
theorem dX5_slay_36 : decode cX5_slay 36 = .ok (.ireturn, 1) := by decide +kernel
theorem dX5_doAgain_0 : decode cX5_doAgain 0 = .ok (.aload_n 0, 1) := by decide +kernel
theorem dX5_doAgain_1 : decode cX5_doAgain 1 = .ok (.getfield 43, 3) := by decide +kernel
theorem dX5_doAgain_4 : decode cX5_doAgain 4 = .ok (.iload_n 1, 1) := by decide +kernel
theorem dX5_doAgain_5 : decode cX5_doAgain 5 = .ok (.invokevirtual 91, 3) := by decide +kernel
theorem dX5_doAgain_8 : decode cX5_doAgain 8 = .ok (.ifCond .eq 11, 3) := by decide +kernel
theorem dX5_doAgain_11 : decode cX5_doAgain 11 = .ok (.aload_n 0, 1) := by decide +kernel
theorem dX5_doAgain_12 : decode cX5_doAgain 12 = .ok (.iload_n 1, 1) := by decide +kernel
theorem dX5_doAgain_13 : decode cX5_doAgain 13 = .ok (.invokevirtual 74, 3) := by decide +kernel
theorem dX5_doAgain_16 : decode cX5_doAgain 16 = .ok (.ifCond .eq 5, 3) := by decide +kernel
theorem dX5_doAgain_19 : decode cX5_doAgain 19 = .ok (.iconst 0, 1) := by decide +kernel
theorem dX5_doAgain_20 : decode cX5_doAgain 20 = .ok (.ireturn, 1) := by decide +kernel
theorem dX5_doAgain_21 : decode cX5_doAgain 21 = .ok (.aload_n 0, 1) := by decide +kernel
theorem dX5_doAgain_22 : decode cX5_doAgain 22 = .ok (.getfield 15, 3) := by decide +kernel
theorem dX5_doAgain_25 : decode cX5_doAgain 25 = .ok (.iload_n 1, 1) := by decide +kernel
theorem dX5_doAgain_26 : decode cX5_doAgain 26 = .ok (.aload_n 0, 1) := by decide +kernel
theorem dX5_doAgain_27 : decode cX5_doAgain 27 = .ok (.getfield 43, 3) := by decide +kernel
theorem dX5_doAgain_30 : decode cX5_doAgain 30 = .ok (.getfield 94, 3) := by decide +kernel
theorem dX5_doAgain_33 : decode cX5_doAgain 33 = .ok (.iload_n 1, 1) := by decide +kernel
theorem dX5_doAgain_34 : decode cX5_doAgain 34 = .ok (.iaload, 1) := by decide +kernel
theorem dX5_doAgain_35 : decode cX5_doAgain 35 = .ok (.iastore, 1) := by decide +kernel
theorem dX5_doAgain_36 : decode cX5_doAgain 36 = .ok (.aload_n 0, 1) := by decide +kernel
theorem dX5_doAgain_37 : decode cX5_doAgain 37 = .ok (.getfield 18, 3) := by decide +kernel
theorem dX5_doAgain_40 : decode cX5_doAgain 40 = .ok (.iload_n 1, 1) := by decide +kernel
theorem dX5_doAgain_41 : decode cX5_doAgain 41 = .ok (.aload_n 0, 1) := by decide +kernel
theorem dX5_doAgain_42 : decode cX5_doAgain 42 = .ok (.getfield 43, 3) := by decide +kernel
theorem dX5_doAgain_45 : decode cX5_doAgain 45 = .ok (.getfield 95, 3) := by decide +kernel
theorem dX5_doAgain_48 : decode cX5_doAgain 48 = .ok (.iload_n 1, 1) := by decide +kernel
theorem dX5_doAgain_49 : decode cX5_doAgain 49 = .ok (.iaload, 1) := by decide +kernel
theorem dX5_doAgain_50 : decode cX5_doAgain 50 = .ok (.iastore, 1) := by decide +kernel
theorem dX5_doAgain_51 : decode cX5_doAgain 51 = .ok (.aload_n 0, 1) := by decide +kernel
theorem dX5_doAgain_52 : decode cX5_doAgain 52 = .ok (.getfield 21, 3) := by decide +kernel
theorem dX5_doAgain_55 : decode cX5_doAgain 55 = .ok (.iload_n 1, 1) := by decide +kernel
theorem dX5_doAgain_56 : decode cX5_doAgain 56 = .ok (.iconst 0, 1) := by decide +kernel
theorem dX5_doAgain_57 : decode cX5_doAgain 57 = .ok (.iastore, 1) := by decide +kernel
theorem dX5_doAgain_58 : decode cX5_doAgain 58 = .ok (.iconst 1, 1) := by decide +kernel
theorem dX5_doAgain_59 : decode cX5_doAgain 59 = .ok (.ireturn, 1) := by decide +kernel
theorem dX5_giveHay_0 : decode cX5_giveHay 0 = .ok (.aload_n 0, 1) := by decide +kernel
theorem dX5_giveHay_1 : decode cX5_giveHay 1 = .ok (.getfield 43, 3) := by decide +kernel
theorem dX5_giveHay_4 : decode cX5_giveHay 4 = .ok (.iload_n 1, 1) := by decide +kernel
theorem dX5_giveHay_5 : decode cX5_giveHay 5 = .ok (.invokevirtual 77, 3) := by decide +kernel
theorem dX5_giveHay_8 : decode cX5_giveHay 8 = .ok (.ifCond .eq 14, 3) := by decide +kernel
theorem dX5_giveHay_11 : decode cX5_giveHay 11 = .ok (.aload_n 0, 1) := by decide +kernel
theorem dX5_giveHay_12 : decode cX5_giveHay 12 = .ok (.getfield 9, 3) := by decide +kernel
theorem dX5_giveHay_15 : decode cX5_giveHay 15 = .ok (.iload_n 1, 1) := by decide +kernel
theorem dX5_giveHay_16 : decode cX5_giveHay 16 = .ok (.iaload, 1) := by decide +kernel
theorem dX5_giveHay_17 : decode cX5_giveHay 17 = .ok (.bipush 99, 2) := by decide +kernel
theorem dX5_giveHay_19 : decode cX5_giveHay 19 = .ok (.if_icmp .lt 5, 3) := by decide +kernel
theorem dX5_giveHay_22 : decode cX5_giveHay 22 = .ok (.iconst 0, 1) := by decide +kernel
theorem dX5_giveHay_23 : decode cX5_giveHay 23 = .ok (.ireturn, 1) := by decide +kernel
theorem dX5_giveHay_24 : decode cX5_giveHay 24 = .ok (.aload_n 0, 1) := by decide +kernel
theorem dX5_giveHay_25 : decode cX5_giveHay 25 = .ok (.getfield 9, 3) := by decide +kernel
theorem dX5_giveHay_28 : decode cX5_giveHay 28 = .ok (.iload_n 1, 1) := by decide +kernel
theorem dX5_giveHay_29 : decode cX5_giveHay 29 = .ok (.bipush 99, 2) := by decide +kernel
theorem dX5_giveHay_31 : decode cX5_giveHay 31 = .ok (.aload_n 0, 1) := by decide +kernel
theorem dX5_giveHay_32 : decode cX5_giveHay 32 = .ok (.getfield 9, 3) := by decide +kernel
theorem dX5_giveHay_35 : decode cX5_giveHay 35 = .ok (.iload_n 1, 1) := by decide +kernel
theorem dX5_giveHay_36 : decode cX5_giveHay 36 = .ok (.iaload, 1) := by decide +kernel
theorem dX5_giveHay_37 : decode cX5_giveHay 37 = .ok (.iload_n 2, 1) := by decide +kernel
theorem dX5_giveHay_38 : decode cX5_giveHay 38 = .ok (.iadd, 1) := by decide +kernel
theorem dX5_giveHay_39 : decode cX5_giveHay 39 = .ok (.invokestatic 98, 3) := by decide +kernel
theorem dX5_giveHay_42 : decode cX5_giveHay 42 = .ok (.iastore, 1) := by decide +kernel
theorem dX5_giveHay_43 : decode cX5_giveHay 43 = .ok (.iconst 1, 1) := by decide +kernel
theorem dX5_giveHay_44 : decode cX5_giveHay 44 = .ok (.ireturn, 1) := by decide +kernel
theorem dX5_remove_0 : decode cX5_remove 0 = .ok (.iload_n 1, 1) := by decide +kernel
theorem dX5_remove_1 : decode cX5_remove 1 = .ok (.ifCond .lt 30, 3) := by decide +kernel
theorem dX5_remove_4 : decode cX5_remove 4 = .ok (.iload_n 1, 1) := by decide +kernel
theorem dX5_remove_5 : decode cX5_remove 5 = .ok (.bipush 13, 2) := by decide +kernel
theorem dX5_remove_7 : decode cX5_remove 7 = .ok (.if_icmp .ge 24, 3) := by decide +kernel
theorem dX5_remove_10 : decode cX5_remove 10 = .ok (.aload_n 0, 1) := by decide +kernel
theorem dX5_remove_11 : decode cX5_remove 11 = .ok (.getfield 15, 3) := by decide +kernel
theorem dX5_remove_14 : decode cX5_remove 14 = .ok (.iload_n 1, 1) := by decide +kernel
theorem dX5_remove_15 : decode cX5_remove 15 = .ok (.iconst 0, 1) := by decide +kernel
theorem dX5_remove_16 : decode cX5_remove 16 = .ok (.iastore, 1) := by decide +kernel
theorem dX5_remove_17 : decode cX5_remove 17 = .ok (.aload_n 0, 1) := by decide +kernel
theorem dX5_remove_18 : decode cX5_remove 18 = .ok (.getfield 18, 3) := by decide +kernel
theorem dX5_remove_21 : decode cX5_remove 21 = .ok (.iload_n 1, 1) := by decide +kernel
theorem dX5_remove_22 : decode cX5_remove 22 = .ok (.iconst (-1), 1) := by decide +kernel
theorem dX5_remove_23 : decode cX5_remove 23 = .ok (.iastore, 1) := by decide +kernel
theorem dX5_remove_24 : decode cX5_remove 24 = .ok (.aload_n 0, 1) := by decide +kernel
theorem dX5_remove_25 : decode cX5_remove 25 = .ok (.getfield 21, 3) := by decide +kernel
theorem dX5_remove_28 : decode cX5_remove 28 = .ok (.iload_n 1, 1) := by decide +kernel
theorem dX5_remove_29 : decode cX5_remove 29 = .ok (.iconst 0, 1) := by decide +kernel
theorem dX5_remove_30 : decode cX5_remove 30 = .ok (.iastore, 1) := by decide +kernel
theorem dX5_remove_31 : decode cX5_remove 31 = .ok (.return_, 1) := by decide +kernel
theorem dX5_makeCooler_0 : decode cX5_makeCooler 0 = .ok (.bipush 9, 2) := by decide +kernel
theorem dX5_makeCooler_2 : decode cX5_makeCooler 2 = .ok (.aload_n 0, 1) := by decide +kernel
theorem dX5_makeCooler_3 : decode cX5_makeCooler 3 = .ok (.iload_n 1, 1) := by decide +kernel
theorem dX5_makeCooler_4 : decode cX5_makeCooler 4 = .ok (.iload_n 2, 1) := by decide +kernel
theorem dX5_makeCooler_5 : decode cX5_makeCooler 5 = .ok (.invokevirtual 104, 3) := by decide +kernel
theorem dX5_makeCooler_8 : decode cX5_makeCooler 8 = .ok (.iconst 1, 1) := by decide +kernel
theorem dX5_makeCooler_9 : decode cX5_makeCooler 9 = .ok (.iadd, 1) := by decide +kernel
theorem dX5_makeCooler_10 : decode cX5_makeCooler 10 = .ok (.invokestatic 98, 3) := by decide +kernel
theorem dX5_makeCooler_13 : decode cX5_makeCooler 13 = .ok (.istore_n 3, 1) := by decide +kernel
theorem dX5_makeCooler_14 : decode cX5_makeCooler 14 = .ok (.aload_n 0, 1) := by decide +kernel
theorem dX5_makeCooler_15 : decode cX5_makeCooler 15 = .ok (.iload_n 1, 1) := by decide +kernel
theorem dX5_makeCooler_16 : decode cX5_makeCooler 16 = .ok (.iload_n 2, 1) := by decide +kernel
theorem dX5_makeCooler_17 : decode cX5_makeCooler 17 = .ok (.iload_n 3, 1) := by decide +kernel
theorem dX5_makeCooler_18 : decode cX5_makeCooler 18 = .ok (.invokevirtual 107, 3) := by decide +kernel
theorem dX5_makeCooler_21 : decode cX5_makeCooler 21 = .ok (.aload_n 0, 1) := by decide +kernel
theorem dX5_makeCooler_22 : decode cX5_makeCooler 22 = .ok (.iload_n 2, 1) := by decide +kernel
theorem dX5_makeCooler_23 : decode cX5_makeCooler 23 = .ok (.iload_n 1, 1) := by decide +kernel
theorem dX5_makeCooler_24 : decode cX5_makeCooler 24 = .ok (.iload_n 3, 1) := by decide +kernel
theorem dX5_makeCooler_25 : decode cX5_makeCooler 25 = .ok (.invokevirtual 107, 3) := by decide +kernel
theorem dX5_makeCooler_28 : decode cX5_makeCooler 28 = .ok (.return_, 1) := by decide +kernel
theorem dX5_setCoolness_0 : decode cX5_setCoolness 0 = .ok (.iload_n 1, 1) := by decide +kernel
theorem dX5_setCoolness_1 : decode cX5_setCoolness 1 = .ok (.ifCond .lt 31, 3) := by decide +kernel
theorem dX5_setCoolness_4 : decode cX5_setCoolness 4 = .ok (.iload_n 1, 1) := by decide +kernel
theorem dX5_setCoolness_5 : decode cX5_setCoolness 5 = .ok (.bipush 6, 2) := by decide +kernel
theorem dX5_setCoolness_7 : decode cX5_setCoolness 7 = .ok (.if_icmp .ge 25, 3) := by decide +kernel
theorem dX5_setCoolness_10 : decode cX5_setCoolness 10 = .ok (.iload_n 2, 1) := by decide +kernel
theorem dX5_setCoolness_11 : decode cX5_setCoolness 11 = .ok (.ifCond .lt 21, 3) := by decide +kernel
theorem dX5_setCoolness_14 : decode cX5_setCoolness 14 = .ok (.iload_n 2, 1) := by decide +kernel
theorem dX5_setCoolness_15 : decode cX5_setCoolness 15 = .ok (.bipush 6, 2) := by decide +kernel
theorem dX5_setCoolness_17 : decode cX5_setCoolness 17 = .ok (.if_icmp .ge 15, 3) := by decide +kernel
theorem dX5_setCoolness_20 : decode cX5_setCoolness 20 = .ok (.aload_n 0, 1) := by decide +kernel
theorem dX5_setCoolness_21 : decode cX5_setCoolness 21 = .ok (.getfield 24, 3) := by decide +kernel
theorem dX5_setCoolness_24 : decode cX5_setCoolness 24 = .ok (.iload_n 1, 1) := by decide +kernel
theorem dX5_setCoolness_25 : decode cX5_setCoolness 25 = .ok (.bipush 6, 2) := by decide +kernel
theorem dX5_setCoolness_27 : decode cX5_setCoolness 27 = .ok (.imul, 1) := by decide +kernel
theorem dX5_setCoolness_28 : decode cX5_setCoolness 28 = .ok (.iload_n 2, 1) := by decide +kernel
theorem dX5_setCoolness_29 : decode cX5_setCoolness 29 = .ok (.iadd, 1) := by decide +kernel
theorem dX5_setCoolness_30 : decode cX5_setCoolness 30 = .ok (.iload_n 3, 1) := by decide +kernel
theorem dX5_setCoolness_31 : decode cX5_setCoolness 31 = .ok (.iastore, 1) := by decide +kernel
theorem dX5_setCoolness_32 : decode cX5_setCoolness 32 = .ok (.return_, 1) := by decide +kernel
theorem dX5_passDay_0 : decode cX5_passDay 0 = .ok (.aload_n 0, 1) := by decide +kernel
theorem dX5_passDay_1 : decode cX5_passDay 1 = .ok (.invokevirtual 111, 3) := by decide +kernel
theorem dX5_passDay_4 : decode cX5_passDay 4 = .ok (.iconst 0, 1) := by decide +kernel
theorem dX5_passDay_5 : decode cX5_passDay 5 = .ok (.istore_n 1, 1) := by decide +kernel
theorem dX5_passDay_6 : decode cX5_passDay 6 = .ok (.iload_n 1, 1) := by decide +kernel
theorem dX5_passDay_7 : decode cX5_passDay 7 = .ok (.bipush 13, 2) := by decide +kernel
theorem dX5_passDay_9 : decode cX5_passDay 9 = .ok (.if_icmp .ge 23, 3) := by decide +kernel
theorem dX5_passDay_12 : decode cX5_passDay 12 = .ok (.aload_n 0, 1) := by decide +kernel
theorem dX5_passDay_13 : decode cX5_passDay 13 = .ok (.getfield 15, 3) := by decide +kernel
theorem dX5_passDay_16 : decode cX5_passDay 16 = .ok (.iload_n 1, 1) := by decide +kernel
theorem dX5_passDay_17 : decode cX5_passDay 17 = .ok (.iaload, 1) := by decide +kernel
theorem dX5_passDay_18 : decode cX5_passDay 18 = .ok (.ifCond .le 8, 3) := by decide +kernel
theorem dX5_passDay_21 : decode cX5_passDay 21 = .ok (.aload_n 0, 1) := by decide +kernel
theorem dX5_passDay_22 : decode cX5_passDay 22 = .ok (.iload_n 1, 1) := by decide +kernel
theorem dX5_passDay_23 : decode cX5_passDay 23 = .ok (.invokevirtual 114, 3) := by decide +kernel
theorem dX5_passDay_26 : decode cX5_passDay 26 = .ok (.iinc 1 1, 3) := by decide +kernel
theorem dX5_passDay_29 : decode cX5_passDay 29 = .ok (.goto (-23), 3) := by decide +kernel
theorem dX5_passDay_32 : decode cX5_passDay 32 = .ok (.iconst 0, 1) := by decide +kernel
theorem dX5_passDay_33 : decode cX5_passDay 33 = .ok (.istore_n 1, 1) := by decide +kernel
theorem dX5_passDay_34 : decode cX5_passDay 34 = .ok (.iload_n 1, 1) := by decide +kernel
theorem dX5_passDay_35 : decode cX5_passDay 35 = .ok (.bipush 6, 2) := by decide +kernel
theorem dX5_passDay_37 : decode cX5_passDay 37 = .ok (.if_icmp .ge 36, 3) := by decide +kernel
theorem dX5_passDay_40 : decode cX5_passDay 40 = .ok (.aload_n 0, 1) := by decide +kernel
theorem dX5_passDay_41 : decode cX5_passDay 41 = .ok (.getfield 9, 3) := by decide +kernel
theorem dX5_passDay_44 : decode cX5_passDay 44 = .ok (.iload_n 1, 1) := by decide +kernel
theorem dX5_passDay_45 : decode cX5_passDay 45 = .ok (.bipush 99, 2) := by decide +kernel
theorem dX5_passDay_47 : decode cX5_passDay 47 = .ok (.aload_n 0, 1) := by decide +kernel
theorem dX5_passDay_48 : decode cX5_passDay 48 = .ok (.getfield 9, 3) := by decide +kernel
theorem dX5_passDay_51 : decode cX5_passDay 51 = .ok (.iload_n 1, 1) := by decide +kernel
theorem dX5_passDay_52 : decode cX5_passDay 52 = .ok (.iaload, 1) := by decide +kernel
theorem dX5_passDay_53 : decode cX5_passDay 53 = .ok (.aload_n 0, 1) := by decide +kernel
theorem dX5_passDay_54 : decode cX5_passDay 54 = .ok (.getfield 43, 3) := by decide +kernel
theorem dX5_passDay_57 : decode cX5_passDay 57 = .ok (.getfield 117, 3) := by decide +kernel
theorem dX5_passDay_60 : decode cX5_passDay 60 = .ok (.iload_n 1, 1) := by decide +kernel
theorem dX5_passDay_61 : decode cX5_passDay 61 = .ok (.iaload, 1) := by decide +kernel
theorem dX5_passDay_62 : decode cX5_passDay 62 = .ok (.iadd, 1) := by decide +kernel
theorem dX5_passDay_63 : decode cX5_passDay 63 = .ok (.invokestatic 98, 3) := by decide +kernel
theorem dX5_passDay_66 : decode cX5_passDay 66 = .ok (.iastore, 1) := by decide +kernel
theorem dX5_passDay_67 : decode cX5_passDay 67 = .ok (.iinc 1 1, 3) := by decide +kernel
theorem dX5_passDay_70 : decode cX5_passDay 70 = .ok (.goto (-36), 3) := by decide +kernel
theorem dX5_passDay_73 : decode cX5_passDay 73 = .ok (.aload_n 0, 1) := by decide +kernel
theorem dX5_passDay_74 : decode cX5_passDay 74 = .ok (.dup, 1) := by decide +kernel
theorem dX5_passDay_75 : decode cX5_passDay 75 = .ok (.getfield 37, 3) := by decide +kernel
theorem dX5_passDay_78 : decode cX5_passDay 78 = .ok (.iconst 1, 1) := by decide +kernel
theorem dX5_passDay_79 : decode cX5_passDay 79 = .ok (.iadd, 1) := by decide +kernel
theorem dX5_passDay_80 : decode cX5_passDay 80 = .ok (.putfield 37, 3) := by decide +kernel
theorem dX5_passDay_83 : decode cX5_passDay 83 = .ok (.return_, 1) := by decide +kernel
theorem dX5_reckonAppetites_0 : decode cX5_reckonAppetites 0 = .ok (.aload_n 0, 1) := by decide +kernel
theorem dX5_reckonAppetites_1 : decode cX5_reckonAppetites 1 = .ok (.getfield 27, 3) := by decide +kernel
theorem dX5_reckonAppetites_4 : decode cX5_reckonAppetites 4 = .ok (.iconst 0, 1) := by decide +kernel
theorem dX5_reckonAppetites_5 : decode cX5_reckonAppetites 5 = .ok (.invokestatic 51, 3) := by decide +kernel
theorem dX5_reckonAppetites_8 : decode cX5_reckonAppetites 8 = .ok (.iconst 0, 1) := by decide +kernel
theorem dX5_reckonAppetites_9 : decode cX5_reckonAppetites 9 = .ok (.istore_n 1, 1) := by decide +kernel
theorem dX5_reckonAppetites_10 : decode cX5_reckonAppetites 10 = .ok (.iload_n 1, 1) := by decide +kernel
theorem dX5_reckonAppetites_11 : decode cX5_reckonAppetites 11 = .ok (.bipush 13, 2) := by decide +kernel
theorem dX5_reckonAppetites_13 : decode cX5_reckonAppetites 13 = .ok (.if_icmp .ge 36, 3) := by decide +kernel
theorem dX5_reckonAppetites_16 : decode cX5_reckonAppetites 16 = .ok (.aload_n 0, 1) := by decide +kernel
theorem dX5_reckonAppetites_17 : decode cX5_reckonAppetites 17 = .ok (.getfield 18, 3) := by decide +kernel
theorem dX5_reckonAppetites_20 : decode cX5_reckonAppetites 20 = .ok (.iload_n 1, 1) := by decide +kernel
theorem dX5_reckonAppetites_21 : decode cX5_reckonAppetites 21 = .ok (.iaload, 1) := by decide +kernel
theorem dX5_reckonAppetites_22 : decode cX5_reckonAppetites 22 = .ok (.istore_n 2, 1) := by decide +kernel
theorem dX5_reckonAppetites_23 : decode cX5_reckonAppetites 23 = .ok (.iload_n 2, 1) := by decide +kernel
theorem dX5_reckonAppetites_24 : decode cX5_reckonAppetites 24 = .ok (.ifCond .lt 19, 3) := by decide +kernel
theorem dX5_reckonAppetites_27 : decode cX5_reckonAppetites 27 = .ok (.iload_n 2, 1) := by decide +kernel
theorem dX5_reckonAppetites_28 : decode cX5_reckonAppetites 28 = .ok (.bipush 6, 2) := by decide +kernel
theorem dX5_reckonAppetites_30 : decode cX5_reckonAppetites 30 = .ok (.if_icmp .ge 13, 3) := by decide +kernel
theorem dX5_reckonAppetites_33 : decode cX5_reckonAppetites 33 = .ok (.aload_n 0, 1) := by decide +kernel
theorem dX5_reckonAppetites_34 : decode cX5_reckonAppetites 34 = .ok (.getfield 27, 3) := by decide +kernel
theorem dX5_reckonAppetites_37 : decode cX5_reckonAppetites 37 = .ok (.iload_n 2, 1) := by decide +kernel
theorem dX5_reckonAppetites_38 : decode cX5_reckonAppetites 38 = .ok (.dup2, 1) := by decide +kernel
theorem dX5_reckonAppetites_39 : decode cX5_reckonAppetites 39 = .ok (.iaload, 1) := by decide +kernel
theorem dX5_reckonAppetites_40 : decode cX5_reckonAppetites 40 = .ok (.iconst 1, 1) := by decide +kernel
theorem dX5_reckonAppetites_41 : decode cX5_reckonAppetites 41 = .ok (.iadd, 1) := by decide +kernel
theorem dX5_reckonAppetites_42 : decode cX5_reckonAppetites 42 = .ok (.iastore, 1) := by decide +kernel
theorem dX5_reckonAppetites_43 : decode cX5_reckonAppetites 43 = .ok (.iinc 1 1, 3) := by decide +kernel
theorem dX5_reckonAppetites_46 : decode cX5_reckonAppetites 46 = .ok (.goto (-36), 3) := by decide +kernel
theorem dX5_reckonAppetites_49 : decode cX5_reckonAppetites 49 = .ok (.iconst 0, 1) := by decide +kernel
theorem dX5_reckonAppetites_50 : decode cX5_reckonAppetites 50 = .ok (.istore_n 1, 1) := by decide +kernel
theorem dX5_reckonAppetites_51 : decode cX5_reckonAppetites 51 = .ok (.iload_n 1, 1) := by decide +kernel
theorem dX5_reckonAppetites_52 : decode cX5_reckonAppetites 52 = .ok (.bipush 13, 2) := by decide +kernel
theorem dX5_reckonAppetites_54 : decode cX5_reckonAppetites 54 = .ok (.if_icmp .ge 33, 3) := by decide +kernel
theorem dX5_reckonAppetites_57 : decode cX5_reckonAppetites 57 = .ok (.aload_n 0, 1) := by decide +kernel
theorem dX5_reckonAppetites_58 : decode cX5_reckonAppetites 58 = .ok (.getfield 30, 3) := by decide +kernel
theorem dX5_reckonAppetites_61 : decode cX5_reckonAppetites 61 = .ok (.iload_n 1, 1) := by decide +kernel
theorem dX5_reckonAppetites_62 : decode cX5_reckonAppetites 62 = .ok (.aload_n 0, 1) := by decide +kernel
theorem dX5_reckonAppetites_63 : decode cX5_reckonAppetites 63 = .ok (.getfield 15, 3) := by decide +kernel
theorem dX5_reckonAppetites_66 : decode cX5_reckonAppetites 66 = .ok (.iload_n 1, 1) := by decide +kernel
theorem dX5_reckonAppetites_67 : decode cX5_reckonAppetites 67 = .ok (.iaload, 1) := by decide +kernel
theorem dX5_reckonAppetites_68 : decode cX5_reckonAppetites 68 = .ok (.ifCond .le 11, 3) := by decide +kernel
theorem dX5_reckonAppetites_71 : decode cX5_reckonAppetites 71 = .ok (.aload_n 0, 1) := by decide +kernel
theorem dX5_reckonAppetites_72 : decode cX5_reckonAppetites 72 = .ok (.iload_n 1, 1) := by decide +kernel
theorem dX5_reckonAppetites_73 : decode cX5_reckonAppetites 73 = .ok (.invokevirtual 120, 3) := by decide +kernel
theorem dX5_reckonAppetites_76 : decode cX5_reckonAppetites 76 = .ok (.goto 4, 3) := by decide +kernel
theorem dX5_reckonAppetites_79 : decode cX5_reckonAppetites 79 = .ok (.iconst 0, 1) := by decide +kernel
theorem dX5_reckonAppetites_80 : decode cX5_reckonAppetites 80 = .ok (.iastore, 1) := by decide +kernel
theorem dX5_reckonAppetites_81 : decode cX5_reckonAppetites 81 = .ok (.iinc 1 1, 3) := by decide +kernel
theorem dX5_reckonAppetites_84 : decode cX5_reckonAppetites 84 = .ok (.goto (-33), 3) := by decide +kernel
theorem dX5_reckonAppetites_87 : decode cX5_reckonAppetites 87 = .ok (.return_, 1) := by decide +kernel
theorem dX5_appetiteOf_0 : decode cX5_appetiteOf 0 = .ok (.iload_n 1, 1) := by decide +kernel
theorem dX5_appetiteOf_1 : decode cX5_appetiteOf 1 = .ok (.ifCond .lt 9, 3) := by decide +kernel
theorem dX5_appetiteOf_4 : decode cX5_appetiteOf 4 = .ok (.iload_n 1, 1) := by decide +kernel
theorem dX5_appetiteOf_5 : decode cX5_appetiteOf 5 = .ok (.bipush 13, 2) := by decide +kernel
theorem dX5_appetiteOf_7 : decode cX5_appetiteOf 7 = .ok (.if_icmp .lt 5, 3) := by decide +kernel
theorem dX5_appetiteOf_10 : decode cX5_appetiteOf 10 = .ok (.iconst 0, 1) := by decide +kernel
theorem dX5_appetiteOf_11 : decode cX5_appetiteOf 11 = .ok (.ireturn, 1) := by decide +kernel
theorem dX5_appetiteOf_12 : decode cX5_appetiteOf 12 = .ok (.aload_n 0, 1) := by decide +kernel
theorem dX5_appetiteOf_13 : decode cX5_appetiteOf 13 = .ok (.getfield 18, 3) := by decide +kernel
theorem dX5_appetiteOf_16 : decode cX5_appetiteOf 16 = .ok (.iload_n 1, 1) := by decide +kernel
theorem dX5_appetiteOf_17 : decode cX5_appetiteOf 17 = .ok (.iaload, 1) := by decide +kernel
theorem dX5_appetiteOf_18 : decode cX5_appetiteOf 18 = .ok (.istore_n 2, 1) := by decide +kernel
theorem dX5_appetiteOf_19 : decode cX5_appetiteOf 19 = .ok (.iload_n 2, 1) := by decide +kernel
theorem dX5_appetiteOf_20 : decode cX5_appetiteOf 20 = .ok (.ifCond .lt 9, 3) := by decide +kernel
theorem dX5_appetiteOf_23 : decode cX5_appetiteOf 23 = .ok (.iload_n 2, 1) := by decide +kernel
theorem dX5_appetiteOf_24 : decode cX5_appetiteOf 24 = .ok (.bipush 6, 2) := by decide +kernel
theorem dX5_appetiteOf_26 : decode cX5_appetiteOf 26 = .ok (.if_icmp .lt 5, 3) := by decide +kernel
theorem dX5_appetiteOf_29 : decode cX5_appetiteOf 29 = .ok (.iconst 0, 1) := by decide +kernel
theorem dX5_appetiteOf_30 : decode cX5_appetiteOf 30 = .ok (.ireturn, 1) := by decide +kernel
theorem dX5_appetiteOf_31 : decode cX5_appetiteOf 31 = .ok (.iload_n 1, 1) := by decide +kernel
theorem dX5_appetiteOf_32 : decode cX5_appetiteOf 32 = .ok (.bipush 12, 2) := by decide +kernel
theorem dX5_appetiteOf_34 : decode cX5_appetiteOf 34 = .ok (.if_icmp .ne 7, 3) := by decide +kernel
theorem dX5_appetiteOf_37 : decode cX5_appetiteOf 37 = .ok (.iconst 1, 1) := by decide +kernel
theorem dX5_appetiteOf_38 : decode cX5_appetiteOf 38 = .ok (.goto 4, 3) := by decide +kernel
theorem dX5_appetiteOf_41 : decode cX5_appetiteOf 41 = .ok (.iconst 0, 1) := by decide +kernel
theorem dX5_appetiteOf_42 : decode cX5_appetiteOf 42 = .ok (.istore_n 3, 1) := by decide +kernel
theorem dX5_appetiteOf_43 : decode cX5_appetiteOf 43 = .ok (.iload_n 3, 1) := by decide +kernel
theorem dX5_appetiteOf_44 : decode cX5_appetiteOf 44 = .ok (.ifCond .eq 7, 3) := by decide +kernel
theorem dX5_appetiteOf_47 : decode cX5_appetiteOf 47 = .ok (.iconst 0, 1) := by decide +kernel
theorem dX5_appetiteOf_48 : decode cX5_appetiteOf 48 = .ok (.goto 25, 3) := by decide +kernel
theorem dX5_appetiteOf_51 : decode cX5_appetiteOf 51 = .ok (.aload_n 0, 1) := by decide +kernel
theorem dX5_appetiteOf_52 : decode cX5_appetiteOf 52 = .ok (.aload_n 0, 1) := by decide +kernel
theorem dX5_appetiteOf_53 : decode cX5_appetiteOf 53 = .ok (.getfield 43, 3) := by decide +kernel
theorem dX5_appetiteOf_56 : decode cX5_appetiteOf 56 = .ok (.getfield 95, 3) := by decide +kernel
theorem dX5_appetiteOf_59 : decode cX5_appetiteOf 59 = .ok (.iload_n 1, 1) := by decide +kernel
theorem dX5_appetiteOf_60 : decode cX5_appetiteOf 60 = .ok (.iaload, 1) := by decide +kernel
theorem dX5_appetiteOf_61 : decode cX5_appetiteOf 61 = .ok (.aload_n 0, 1) := by decide +kernel
theorem dX5_appetiteOf_62 : decode cX5_appetiteOf 62 = .ok (.getfield 43, 3) := by decide +kernel
theorem dX5_appetiteOf_65 : decode cX5_appetiteOf 65 = .ok (.getfield 123, 3) := by decide +kernel
theorem dX5_appetiteOf_68 : decode cX5_appetiteOf 68 = .ok (.iload_n 1, 1) := by decide +kernel
theorem dX5_appetiteOf_69 : decode cX5_appetiteOf 69 = .ok (.iaload, 1) := by decide +kernel
theorem dX5_appetiteOf_70 : decode cX5_appetiteOf 70 = .ok (.invokevirtual 104, 3) := by decide +kernel
theorem dX5_appetiteOf_73 : decode cX5_appetiteOf 73 = .ok (.istore 4, 2) := by decide +kernel
theorem dX5_appetiteOf_75 : decode cX5_appetiteOf 75 = .ok (.aload_n 0, 1) := by decide +kernel
theorem dX5_appetiteOf_76 : decode cX5_appetiteOf 76 = .ok (.getfield 47, 3) := by decide +kernel
theorem dX5_appetiteOf_79 : decode cX5_appetiteOf 79 = .ok (.aload_n 0, 1) := by decide +kernel
theorem dX5_appetiteOf_80 : decode cX5_appetiteOf 80 = .ok (.getfield 15, 3) := by decide +kernel
theorem dX5_appetiteOf_83 : decode cX5_appetiteOf 83 = .ok (.iload_n 1, 1) := by decide +kernel
theorem dX5_appetiteOf_84 : decode cX5_appetiteOf 84 = .ok (.iaload, 1) := by decide +kernel
theorem dX5_appetiteOf_85 : decode cX5_appetiteOf 85 = .ok (.iload_n 3, 1) := by decide +kernel
theorem dX5_appetiteOf_86 : decode cX5_appetiteOf 86 = .ok (.ifCond .eq 10, 3) := by decide +kernel
theorem dX5_appetiteOf_89 : decode cX5_appetiteOf 89 = .ok (.aload_n 0, 1) := by decide +kernel
theorem dX5_appetiteOf_90 : decode cX5_appetiteOf 90 = .ok (.getfield 33, 3) := by decide +kernel
theorem dX5_appetiteOf_93 : decode cX5_appetiteOf 93 = .ok (.goto 12, 3) := by decide +kernel
theorem dX5_appetiteOf_96 : decode cX5_appetiteOf 96 = .ok (.aload_n 0, 1) := by decide +kernel
theorem dX5_appetiteOf_97 : decode cX5_appetiteOf 97 = .ok (.getfield 43, 3) := by decide +kernel
theorem dX5_appetiteOf_100 : decode cX5_appetiteOf 100 = .ok (.getfield 126, 3) := by decide +kernel
theorem dX5_appetiteOf_103 : decode cX5_appetiteOf 103 = .ok (.iload_n 1, 1) := by decide +kernel
theorem dX5_appetiteOf_104 : decode cX5_appetiteOf 104 = .ok (.iaload, 1) := by decide +kernel
theorem dX5_appetiteOf_105 : decode cX5_appetiteOf 105 = .ok (.aload_n 0, 1) := by decide +kernel
theorem dX5_appetiteOf_106 : decode cX5_appetiteOf 106 = .ok (.getfield 21, 3) := by decide +kernel
theorem dX5_appetiteOf_109 : decode cX5_appetiteOf 109 = .ok (.iload_n 1, 1) := by decide +kernel
theorem dX5_appetiteOf_110 : decode cX5_appetiteOf 110 = .ok (.iaload, 1) := by decide +kernel
theorem dX5_appetiteOf_111 : decode cX5_appetiteOf 111 = .ok (.iload_n 1, 1) := by decide +kernel
theorem dX5_appetiteOf_112 : decode cX5_appetiteOf 112 = .ok (.invokevirtual 129, 3) := by decide +kernel
theorem dX5_appetiteOf_115 : decode cX5_appetiteOf 115 = .ok (.aload_n 0, 1) := by decide +kernel
theorem dX5_appetiteOf_116 : decode cX5_appetiteOf 116 = .ok (.getfield 47, 3) := by decide +kernel
theorem dX5_appetiteOf_119 : decode cX5_appetiteOf 119 = .ok (.aload_n 0, 1) := by decide +kernel
theorem dX5_appetiteOf_120 : decode cX5_appetiteOf 120 = .ok (.getfield 9, 3) := by decide +kernel
theorem dX5_appetiteOf_123 : decode cX5_appetiteOf 123 = .ok (.iload_n 2, 1) := by decide +kernel
theorem dX5_appetiteOf_124 : decode cX5_appetiteOf 124 = .ok (.iaload, 1) := by decide +kernel
theorem dX5_appetiteOf_125 : decode cX5_appetiteOf 125 = .ok (.aload_n 0, 1) := by decide +kernel
theorem dX5_appetiteOf_126 : decode cX5_appetiteOf 126 = .ok (.getfield 27, 3) := by decide +kernel
theorem dX5_appetiteOf_129 : decode cX5_appetiteOf 129 = .ok (.iload_n 2, 1) := by decide +kernel
theorem dX5_appetiteOf_130 : decode cX5_appetiteOf 130 = .ok (.iaload, 1) := by decide +kernel
theorem dX5_appetiteOf_131 : decode cX5_appetiteOf 131 = .ok (.iconst 1, 1) := by decide +kernel
theorem dX5_appetiteOf_132 : decode cX5_appetiteOf 132 = .ok (.isub, 1) := by decide +kernel
theorem dX5_appetiteOf_133 : decode cX5_appetiteOf 133 = .ok (.iload 4, 2) := by decide +kernel
theorem dX5_appetiteOf_135 : decode cX5_appetiteOf 135 = .ok (.aload_n 0, 1) := by decide +kernel
theorem dX5_appetiteOf_136 : decode cX5_appetiteOf 136 = .ok (.getfield 37, 3) := by decide +kernel
theorem dX5_appetiteOf_139 : decode cX5_appetiteOf 139 = .ok (.invokevirtual 135, 3) := by decide +kernel
theorem dX5_appetiteOf_142 : decode cX5_appetiteOf 142 = .ok (.aload_n 0, 1) := by decide +kernel
theorem dX5_appetiteOf_143 : decode cX5_appetiteOf 143 = .ok (.getfield 47, 3) := by decide +kernel
theorem dX5_appetiteOf_146 : decode cX5_appetiteOf 146 = .ok (.invokevirtual 138, 3) := by decide +kernel
theorem dX5_appetiteOf_149 : decode cX5_appetiteOf 149 = .ok (.ireturn, 1) := by decide +kernel
theorem dX5_graze_0 : decode cX5_graze 0 = .ok (.iload_n 1, 1) := by decide +kernel
theorem dX5_graze_1 : decode cX5_graze 1 = .ok (.ifCond .lt 9, 3) := by decide +kernel
theorem dX5_graze_4 : decode cX5_graze 4 = .ok (.iload_n 1, 1) := by decide +kernel
theorem dX5_graze_5 : decode cX5_graze 5 = .ok (.bipush 13, 2) := by decide +kernel
theorem dX5_graze_7 : decode cX5_graze 7 = .ok (.if_icmp .lt 4, 3) := by decide +kernel
theorem dX5_graze_10 : decode cX5_graze 10 = .ok (.return_, 1) := by decide +kernel
theorem dX5_graze_11 : decode cX5_graze 11 = .ok (.aload_n 0, 1) := by decide +kernel
theorem dX5_graze_12 : decode cX5_graze 12 = .ok (.getfield 18, 3) := by decide +kernel
theorem dX5_graze_15 : decode cX5_graze 15 = .ok (.iload_n 1, 1) := by decide +kernel
theorem dX5_graze_16 : decode cX5_graze 16 = .ok (.iaload, 1) := by decide +kernel
theorem dX5_graze_17 : decode cX5_graze 17 = .ok (.istore_n 2, 1) := by decide +kernel
theorem dX5_graze_18 : decode cX5_graze 18 = .ok (.iload_n 2, 1) := by decide +kernel
theorem dX5_graze_19 : decode cX5_graze 19 = .ok (.ifCond .lt 9, 3) := by decide +kernel
theorem dX5_graze_22 : decode cX5_graze 22 = .ok (.iload_n 2, 1) := by decide +kernel
theorem dX5_graze_23 : decode cX5_graze 23 = .ok (.bipush 6, 2) := by decide +kernel
theorem dX5_graze_25 : decode cX5_graze 25 = .ok (.if_icmp .lt 4, 3) := by decide +kernel
theorem dX5_graze_28 : decode cX5_graze 28 = .ok (.return_, 1) := by decide +kernel
theorem dX5_graze_29 : decode cX5_graze 29 = .ok (.aload_n 0, 1) := by decide +kernel
theorem dX5_graze_30 : decode cX5_graze 30 = .ok (.getfield 30, 3) := by decide +kernel
theorem dX5_graze_33 : decode cX5_graze 33 = .ok (.iload_n 1, 1) := by decide +kernel
theorem dX5_graze_34 : decode cX5_graze 34 = .ok (.iaload, 1) := by decide +kernel
theorem dX5_graze_35 : decode cX5_graze 35 = .ok (.aload_n 0, 1) := by decide +kernel
theorem dX5_graze_36 : decode cX5_graze 36 = .ok (.getfield 9, 3) := by decide +kernel
theorem dX5_graze_39 : decode cX5_graze 39 = .ok (.iload_n 2, 1) := by decide +kernel
theorem dX5_graze_40 : decode cX5_graze 40 = .ok (.iaload, 1) := by decide +kernel
theorem dX5_graze_41 : decode cX5_graze 41 = .ok (.invokestatic 98, 3) := by decide +kernel
theorem dX5_graze_44 : decode cX5_graze 44 = .ok (.istore_n 3, 1) := by decide +kernel
theorem dX5_graze_45 : decode cX5_graze 45 = .ok (.aload_n 0, 1) := by decide +kernel
theorem dX5_graze_46 : decode cX5_graze 46 = .ok (.getfield 9, 3) := by decide +kernel
theorem dX5_graze_49 : decode cX5_graze 49 = .ok (.iload_n 2, 1) := by decide +kernel
theorem dX5_graze_50 : decode cX5_graze 50 = .ok (.dup2, 1) := by decide +kernel
theorem dX5_graze_51 : decode cX5_graze 51 = .ok (.iaload, 1) := by decide +kernel
theorem dX5_graze_52 : decode cX5_graze 52 = .ok (.iload_n 3, 1) := by decide +kernel
theorem dX5_graze_53 : decode cX5_graze 53 = .ok (.isub, 1) := by decide +kernel
theorem dX5_graze_54 : decode cX5_graze 54 = .ok (.iastore, 1) := by decide +kernel
theorem dX5_graze_55 : decode cX5_graze 55 = .ok (.aload_n 0, 1) := by decide +kernel
theorem dX5_graze_56 : decode cX5_graze 56 = .ok (.getfield 15, 3) := by decide +kernel
theorem dX5_graze_59 : decode cX5_graze 59 = .ok (.iload_n 1, 1) := by decide +kernel
theorem dX5_graze_60 : decode cX5_graze 60 = .ok (.dup2, 1) := by decide +kernel
theorem dX5_graze_61 : decode cX5_graze 61 = .ok (.iaload, 1) := by decide +kernel
theorem dX5_graze_62 : decode cX5_graze 62 = .ok (.aload_n 0, 1) := by decide +kernel
theorem dX5_graze_63 : decode cX5_graze 63 = .ok (.getfield 30, 3) := by decide +kernel
theorem dX5_graze_66 : decode cX5_graze 66 = .ok (.iload_n 1, 1) := by decide +kernel
theorem dX5_graze_67 : decode cX5_graze 67 = .ok (.iaload, 1) := by decide +kernel
theorem dX5_graze_68 : decode cX5_graze 68 = .ok (.iload_n 3, 1) := by decide +kernel
theorem dX5_graze_69 : decode cX5_graze 69 = .ok (.isub, 1) := by decide +kernel
theorem dX5_graze_70 : decode cX5_graze 70 = .ok (.isub, 1) := by decide +kernel
theorem dX5_graze_71 : decode cX5_graze 71 = .ok (.iastore, 1) := by decide +kernel
theorem dX5_graze_72 : decode cX5_graze 72 = .ok (.aload_n 0, 1) := by decide +kernel
theorem dX5_graze_73 : decode cX5_graze 73 = .ok (.getfield 21, 3) := by decide +kernel
theorem dX5_graze_76 : decode cX5_graze 76 = .ok (.iload_n 1, 1) := by decide +kernel
theorem dX5_graze_77 : decode cX5_graze 77 = .ok (.dup2, 1) := by decide +kernel
theorem dX5_graze_78 : decode cX5_graze 78 = .ok (.iaload, 1) := by decide +kernel
theorem dX5_graze_79 : decode cX5_graze 79 = .ok (.iconst 1, 1) := by decide +kernel
theorem dX5_graze_80 : decode cX5_graze 80 = .ok (.iadd, 1) := by decide +kernel
theorem dX5_graze_81 : decode cX5_graze 81 = .ok (.iastore, 1) := by decide +kernel
theorem dX5_graze_82 : decode cX5_graze 82 = .ok (.aload_n 0, 1) := by decide +kernel
theorem dX5_graze_83 : decode cX5_graze 83 = .ok (.getfield 15, 3) := by decide +kernel
theorem dX5_graze_86 : decode cX5_graze 86 = .ok (.iload_n 1, 1) := by decide +kernel
theorem dX5_graze_87 : decode cX5_graze 87 = .ok (.iaload, 1) := by decide +kernel
theorem dX5_graze_88 : decode cX5_graze 88 = .ok (.ifCond .gt 18, 3) := by decide +kernel
theorem dX5_graze_91 : decode cX5_graze 91 = .ok (.aload_n 0, 1) := by decide +kernel
theorem dX5_graze_92 : decode cX5_graze 92 = .ok (.iload_n 1, 1) := by decide +kernel
theorem dX5_graze_93 : decode cX5_graze 93 = .ok (.invokevirtual 66, 3) := by decide +kernel
theorem dX5_graze_96 : decode cX5_graze 96 = .ok (.aload_n 0, 1) := by decide +kernel
theorem dX5_graze_97 : decode cX5_graze 97 = .ok (.dup, 1) := by decide +kernel
theorem dX5_graze_98 : decode cX5_graze 98 = .ok (.getfield 40, 3) := by decide +kernel
theorem dX5_graze_101 : decode cX5_graze 101 = .ok (.iconst 1, 1) := by decide +kernel
theorem dX5_graze_102 : decode cX5_graze 102 = .ok (.iadd, 1) := by decide +kernel
theorem dX5_graze_103 : decode cX5_graze 103 = .ok (.putfield 40, 3) := by decide +kernel
theorem dX5_graze_106 : decode cX5_graze 106 = .ok (.return_, 1) := by decide +kernel
theorem dX5_keepOnly_0 : decode cX5_keepOnly 0 = .ok (.iconst 0, 1) := by decide +kernel
theorem dX5_keepOnly_1 : decode cX5_keepOnly 1 = .ok (.istore_n 2, 1) := by decide +kernel
theorem dX5_keepOnly_2 : decode cX5_keepOnly 2 = .ok (.iload_n 2, 1) := by decide +kernel
theorem dX5_keepOnly_3 : decode cX5_keepOnly 3 = .ok (.bipush 13, 2) := by decide +kernel
theorem dX5_keepOnly_5 : decode cX5_keepOnly 5 = .ok (.if_icmp .ge 24, 3) := by decide +kernel
theorem dX5_keepOnly_8 : decode cX5_keepOnly 8 = .ok (.aload_n 0, 1) := by decide +kernel
theorem dX5_keepOnly_9 : decode cX5_keepOnly 9 = .ok (.getfield 18, 3) := by decide +kernel
theorem dX5_keepOnly_12 : decode cX5_keepOnly 12 = .ok (.iload_n 2, 1) := by decide +kernel
theorem dX5_keepOnly_13 : decode cX5_keepOnly 13 = .ok (.iaload, 1) := by decide +kernel
theorem dX5_keepOnly_14 : decode cX5_keepOnly 14 = .ok (.iload_n 1, 1) := by decide +kernel
theorem dX5_keepOnly_15 : decode cX5_keepOnly 15 = .ok (.if_icmp .eq 8, 3) := by decide +kernel
theorem dX5_keepOnly_18 : decode cX5_keepOnly 18 = .ok (.aload_n 0, 1) := by decide +kernel
theorem dX5_keepOnly_19 : decode cX5_keepOnly 19 = .ok (.iload_n 2, 1) := by decide +kernel
theorem dX5_keepOnly_20 : decode cX5_keepOnly 20 = .ok (.invokevirtual 66, 3) := by decide +kernel
theorem dX5_keepOnly_23 : decode cX5_keepOnly 23 = .ok (.iinc 2 1, 3) := by decide +kernel
theorem dX5_keepOnly_26 : decode cX5_keepOnly 26 = .ok (.goto (-24), 3) := by decide +kernel
theorem dX5_keepOnly_29 : decode cX5_keepOnly 29 = .ok (.return_, 1) := by decide +kernel
theorem dX5_addStranger_0 : decode cX5_addStranger 0 = .ok (.aload_n 0, 1) := by decide +kernel
theorem dX5_addStranger_1 : decode cX5_addStranger 1 = .ok (.getfield 15, 3) := by decide +kernel
theorem dX5_addStranger_4 : decode cX5_addStranger 4 = .ok (.bipush 12, 2) := by decide +kernel
theorem dX5_addStranger_6 : decode cX5_addStranger 6 = .ok (.iload_n 3, 1) := by decide +kernel
theorem dX5_addStranger_7 : decode cX5_addStranger 7 = .ok (.iastore, 1) := by decide +kernel
theorem dX5_addStranger_8 : decode cX5_addStranger 8 = .ok (.aload_n 0, 1) := by decide +kernel
theorem dX5_addStranger_9 : decode cX5_addStranger 9 = .ok (.getfield 18, 3) := by decide +kernel
theorem dX5_addStranger_12 : decode cX5_addStranger 12 = .ok (.bipush 12, 2) := by decide +kernel
theorem dX5_addStranger_14 : decode cX5_addStranger 14 = .ok (.iload_n 1, 1) := by decide +kernel
theorem dX5_addStranger_15 : decode cX5_addStranger 15 = .ok (.iastore, 1) := by decide +kernel
theorem dX5_addStranger_16 : decode cX5_addStranger 16 = .ok (.aload_n 0, 1) := by decide +kernel
theorem dX5_addStranger_17 : decode cX5_addStranger 17 = .ok (.getfield 21, 3) := by decide +kernel
theorem dX5_addStranger_20 : decode cX5_addStranger 20 = .ok (.bipush 12, 2) := by decide +kernel
theorem dX5_addStranger_22 : decode cX5_addStranger 22 = .ok (.iconst 0, 1) := by decide +kernel
theorem dX5_addStranger_23 : decode cX5_addStranger 23 = .ok (.iastore, 1) := by decide +kernel
theorem dX5_addStranger_24 : decode cX5_addStranger 24 = .ok (.aload_n 0, 1) := by decide +kernel
theorem dX5_addStranger_25 : decode cX5_addStranger 25 = .ok (.iload_n 2, 1) := by decide +kernel
theorem dX5_addStranger_26 : decode cX5_addStranger 26 = .ok (.putfield 33, 3) := by decide +kernel
theorem dX5_addStranger_29 : decode cX5_addStranger 29 = .ok (.return_, 1) := by decide +kernel
theorem dX5_isThere_0 : decode cX5_isThere 0 = .ok (.iload_n 1, 1) := by decide +kernel
theorem dX5_isThere_1 : decode cX5_isThere 1 = .ok (.ifCond .lt 22, 3) := by decide +kernel
theorem dX5_isThere_4 : decode cX5_isThere 4 = .ok (.iload_n 1, 1) := by decide +kernel
theorem dX5_isThere_5 : decode cX5_isThere 5 = .ok (.bipush 13, 2) := by decide +kernel
theorem dX5_isThere_7 : decode cX5_isThere 7 = .ok (.if_icmp .ge 16, 3) := by decide +kernel
theorem dX5_isThere_10 : decode cX5_isThere 10 = .ok (.aload_n 0, 1) := by decide +kernel
theorem dX5_isThere_11 : decode cX5_isThere 11 = .ok (.getfield 15, 3) := by decide +kernel
theorem dX5_isThere_14 : decode cX5_isThere 14 = .ok (.iload_n 1, 1) := by decide +kernel
theorem dX5_isThere_15 : decode cX5_isThere 15 = .ok (.iaload, 1) := by decide +kernel
theorem dX5_isThere_16 : decode cX5_isThere 16 = .ok (.ifCond .le 7, 3) := by decide +kernel
theorem dX5_isThere_19 : decode cX5_isThere 19 = .ok (.iconst 1, 1) := by decide +kernel
theorem dX5_isThere_20 : decode cX5_isThere 20 = .ok (.goto 4, 3) := by decide +kernel
theorem dX5_isThere_23 : decode cX5_isThere 23 = .ok (.iconst 0, 1) := by decide +kernel
theorem dX5_isThere_24 : decode cX5_isThere 24 = .ok (.ireturn, 1) := by decide +kernel
theorem dX5_pastureOf_0 : decode cX5_pastureOf 0 = .ok (.aload_n 0, 1) := by decide +kernel
theorem dX5_pastureOf_1 : decode cX5_pastureOf 1 = .ok (.iload_n 1, 1) := by decide +kernel
theorem dX5_pastureOf_2 : decode cX5_pastureOf 2 = .ok (.invokevirtual 74, 3) := by decide +kernel
theorem dX5_pastureOf_5 : decode cX5_pastureOf 5 = .ok (.ifCond .eq 12, 3) := by decide +kernel
theorem dX5_pastureOf_8 : decode cX5_pastureOf 8 = .ok (.aload_n 0, 1) := by decide +kernel
theorem dX5_pastureOf_9 : decode cX5_pastureOf 9 = .ok (.getfield 18, 3) := by decide +kernel
theorem dX5_pastureOf_12 : decode cX5_pastureOf 12 = .ok (.iload_n 1, 1) := by decide +kernel
theorem dX5_pastureOf_13 : decode cX5_pastureOf 13 = .ok (.iaload, 1) := by decide +kernel
theorem dX5_pastureOf_14 : decode cX5_pastureOf 14 = .ok (.goto 4, 3) := by decide +kernel
theorem dX5_pastureOf_17 : decode cX5_pastureOf 17 = .ok (.iconst (-1), 1) := by decide +kernel
theorem dX5_pastureOf_18 : decode cX5_pastureOf 18 = .ok (.ireturn, 1) := by decide +kernel
theorem dX5_ageOf_0 : decode cX5_ageOf 0 = .ok (.aload_n 0, 1) := by decide +kernel
theorem dX5_ageOf_1 : decode cX5_ageOf 1 = .ok (.iload_n 1, 1) := by decide +kernel
theorem dX5_ageOf_2 : decode cX5_ageOf 2 = .ok (.invokevirtual 74, 3) := by decide +kernel
theorem dX5_ageOf_5 : decode cX5_ageOf 5 = .ok (.ifCond .eq 12, 3) := by decide +kernel
theorem dX5_ageOf_8 : decode cX5_ageOf 8 = .ok (.aload_n 0, 1) := by decide +kernel
theorem dX5_ageOf_9 : decode cX5_ageOf 9 = .ok (.getfield 21, 3) := by decide +kernel
theorem dX5_ageOf_12 : decode cX5_ageOf 12 = .ok (.iload_n 1, 1) := by decide +kernel
theorem dX5_ageOf_13 : decode cX5_ageOf 13 = .ok (.iaload, 1) := by decide +kernel
theorem dX5_ageOf_14 : decode cX5_ageOf 14 = .ok (.goto 4, 3) := by decide +kernel
theorem dX5_ageOf_17 : decode cX5_ageOf 17 = .ok (.iconst 0, 1) := by decide +kernel
theorem dX5_ageOf_18 : decode cX5_ageOf 18 = .ok (.ireturn, 1) := by decide +kernel
theorem dX5_grassOf_0 : decode cX5_grassOf 0 = .ok (.iload_n 1, 1) := by decide +kernel
theorem dX5_grassOf_1 : decode cX5_grassOf 1 = .ok (.ifCond .lt 18, 3) := by decide +kernel
theorem dX5_grassOf_4 : decode cX5_grassOf 4 = .ok (.iload_n 1, 1) := by decide +kernel
theorem dX5_grassOf_5 : decode cX5_grassOf 5 = .ok (.bipush 6, 2) := by decide +kernel
theorem dX5_grassOf_7 : decode cX5_grassOf 7 = .ok (.if_icmp .ge 12, 3) := by decide +kernel
theorem dX5_grassOf_10 : decode cX5_grassOf 10 = .ok (.aload_n 0, 1) := by decide +kernel
theorem dX5_grassOf_11 : decode cX5_grassOf 11 = .ok (.getfield 9, 3) := by decide +kernel
theorem dX5_grassOf_14 : decode cX5_grassOf 14 = .ok (.iload_n 1, 1) := by decide +kernel
theorem dX5_grassOf_15 : decode cX5_grassOf 15 = .ok (.iaload, 1) := by decide +kernel
theorem dX5_grassOf_16 : decode cX5_grassOf 16 = .ok (.goto 4, 3) := by decide +kernel
theorem dX5_grassOf_19 : decode cX5_grassOf 19 = .ok (.iconst 0, 1) := by decide +kernel
theorem dX5_grassOf_20 : decode cX5_grassOf 20 = .ok (.ireturn, 1) := by decide +kernel
theorem dX5_coolness_0 : decode cX5_coolness 0 = .ok (.iload_n 1, 1) := by decide +kernel
theorem dX5_coolness_1 : decode cX5_coolness 1 = .ok (.ifCond .lt 19, 3) := by decide +kernel
theorem dX5_coolness_4 : decode cX5_coolness 4 = .ok (.iload_n 1, 1) := by decide +kernel
theorem dX5_coolness_5 : decode cX5_coolness 5 = .ok (.bipush 6, 2) := by decide +kernel
theorem dX5_coolness_7 : decode cX5_coolness 7 = .ok (.if_icmp .ge 13, 3) := by decide +kernel
theorem dX5_coolness_10 : decode cX5_coolness 10 = .ok (.iload_n 2, 1) := by decide +kernel
theorem dX5_coolness_11 : decode cX5_coolness 11 = .ok (.ifCond .lt 9, 3) := by decide +kernel
theorem dX5_coolness_14 : decode cX5_coolness 14 = .ok (.iload_n 2, 1) := by decide +kernel
theorem dX5_coolness_15 : decode cX5_coolness 15 = .ok (.bipush 6, 2) := by decide +kernel
theorem dX5_coolness_17 : decode cX5_coolness 17 = .ok (.if_icmp .lt 5, 3) := by decide +kernel
theorem dX5_coolness_20 : decode cX5_coolness 20 = .ok (.iconst 0, 1) := by decide +kernel
theorem dX5_coolness_21 : decode cX5_coolness 21 = .ok (.ireturn, 1) := by decide +kernel
theorem dX5_coolness_22 : decode cX5_coolness 22 = .ok (.aload_n 0, 1) := by decide +kernel
theorem dX5_coolness_23 : decode cX5_coolness 23 = .ok (.getfield 24, 3) := by decide +kernel
theorem dX5_coolness_26 : decode cX5_coolness 26 = .ok (.iload_n 1, 1) := by decide +kernel
theorem dX5_coolness_27 : decode cX5_coolness 27 = .ok (.bipush 6, 2) := by decide +kernel
theorem dX5_coolness_29 : decode cX5_coolness 29 = .ok (.imul, 1) := by decide +kernel
theorem dX5_coolness_30 : decode cX5_coolness 30 = .ok (.iload_n 2, 1) := by decide +kernel
theorem dX5_coolness_31 : decode cX5_coolness 31 = .ok (.iadd, 1) := by decide +kernel
theorem dX5_coolness_32 : decode cX5_coolness 32 = .ok (.iaload, 1) := by decide +kernel
theorem dX5_coolness_33 : decode cX5_coolness 33 = .ok (.ireturn, 1) := by decide +kernel
theorem dX5_thereBits_0 : decode cX5_thereBits 0 = .ok (.iconst 0, 1) := by decide +kernel
theorem dX5_thereBits_1 : decode cX5_thereBits 1 = .ok (.istore_n 1, 1) := by decide +kernel
theorem dX5_thereBits_2 : decode cX5_thereBits 2 = .ok (.iconst 0, 1) := by decide +kernel
theorem dX5_thereBits_3 : decode cX5_thereBits 3 = .ok (.istore_n 2, 1) := by decide +kernel
theorem dX5_thereBits_4 : decode cX5_thereBits 4 = .ok (.iload_n 2, 1) := by decide +kernel
theorem dX5_thereBits_5 : decode cX5_thereBits 5 = .ok (.bipush 12, 2) := by decide +kernel
theorem dX5_thereBits_7 : decode cX5_thereBits 7 = .ok (.if_icmp .ge 24, 3) := by decide +kernel
theorem dX5_thereBits_10 : decode cX5_thereBits 10 = .ok (.aload_n 0, 1) := by decide +kernel
theorem dX5_thereBits_11 : decode cX5_thereBits 11 = .ok (.getfield 15, 3) := by decide +kernel
theorem dX5_thereBits_14 : decode cX5_thereBits 14 = .ok (.iload_n 2, 1) := by decide +kernel
theorem dX5_thereBits_15 : decode cX5_thereBits 15 = .ok (.iaload, 1) := by decide +kernel
theorem dX5_thereBits_16 : decode cX5_thereBits 16 = .ok (.ifCond .le 9, 3) := by decide +kernel
theorem dX5_thereBits_19 : decode cX5_thereBits 19 = .ok (.iload_n 1, 1) := by decide +kernel
theorem dX5_thereBits_20 : decode cX5_thereBits 20 = .ok (.iconst 1, 1) := by decide +kernel
theorem dX5_thereBits_21 : decode cX5_thereBits 21 = .ok (.iload_n 2, 1) := by decide +kernel
theorem dX5_thereBits_22 : decode cX5_thereBits 22 = .ok (.ishl, 1) := by decide +kernel
theorem dX5_thereBits_23 : decode cX5_thereBits 23 = .ok (.ior, 1) := by decide +kernel
theorem dX5_thereBits_24 : decode cX5_thereBits 24 = .ok (.istore_n 1, 1) := by decide +kernel
theorem dX5_thereBits_25 : decode cX5_thereBits 25 = .ok (.iinc 2 1, 3) := by decide +kernel
theorem dX5_thereBits_28 : decode cX5_thereBits 28 = .ok (.goto (-24), 3) := by decide +kernel
theorem dX5_thereBits_31 : decode cX5_thereBits 31 = .ok (.iload_n 1, 1) := by decide +kernel
theorem dX5_thereBits_32 : decode cX5_thereBits 32 = .ok (.ireturn, 1) := by decide +kernel
theorem dX5_grazingBits_0 : decode cX5_grazingBits 0 = .ok (.iconst 0, 1) := by decide +kernel
theorem dX5_grazingBits_1 : decode cX5_grazingBits 1 = .ok (.istore_n 2, 1) := by decide +kernel
theorem dX5_grazingBits_2 : decode cX5_grazingBits 2 = .ok (.iconst 0, 1) := by decide +kernel
theorem dX5_grazingBits_3 : decode cX5_grazingBits 3 = .ok (.istore_n 3, 1) := by decide +kernel
theorem dX5_grazingBits_4 : decode cX5_grazingBits 4 = .ok (.iload_n 3, 1) := by decide +kernel
theorem dX5_grazingBits_5 : decode cX5_grazingBits 5 = .ok (.bipush 12, 2) := by decide +kernel
theorem dX5_grazingBits_7 : decode cX5_grazingBits 7 = .ok (.if_icmp .ge 34, 3) := by decide +kernel
theorem dX5_grazingBits_10 : decode cX5_grazingBits 10 = .ok (.aload_n 0, 1) := by decide +kernel
theorem dX5_grazingBits_11 : decode cX5_grazingBits 11 = .ok (.getfield 15, 3) := by decide +kernel
theorem dX5_grazingBits_14 : decode cX5_grazingBits 14 = .ok (.iload_n 3, 1) := by decide +kernel
theorem dX5_grazingBits_15 : decode cX5_grazingBits 15 = .ok (.iaload, 1) := by decide +kernel
theorem dX5_grazingBits_16 : decode cX5_grazingBits 16 = .ok (.ifCond .le 19, 3) := by decide +kernel
theorem dX5_grazingBits_19 : decode cX5_grazingBits 19 = .ok (.aload_n 0, 1) := by decide +kernel
theorem dX5_grazingBits_20 : decode cX5_grazingBits 20 = .ok (.getfield 18, 3) := by decide +kernel
theorem dX5_grazingBits_23 : decode cX5_grazingBits 23 = .ok (.iload_n 3, 1) := by decide +kernel
theorem dX5_grazingBits_24 : decode cX5_grazingBits 24 = .ok (.iaload, 1) := by decide +kernel
theorem dX5_grazingBits_25 : decode cX5_grazingBits 25 = .ok (.iload_n 1, 1) := by decide +kernel
theorem dX5_grazingBits_26 : decode cX5_grazingBits 26 = .ok (.if_icmp .ne 9, 3) := by decide +kernel
theorem dX5_grazingBits_29 : decode cX5_grazingBits 29 = .ok (.iload_n 2, 1) := by decide +kernel
theorem dX5_grazingBits_30 : decode cX5_grazingBits 30 = .ok (.iconst 1, 1) := by decide +kernel
theorem dX5_grazingBits_31 : decode cX5_grazingBits 31 = .ok (.iload_n 3, 1) := by decide +kernel
theorem dX5_grazingBits_32 : decode cX5_grazingBits 32 = .ok (.ishl, 1) := by decide +kernel
theorem dX5_grazingBits_33 : decode cX5_grazingBits 33 = .ok (.ior, 1) := by decide +kernel
theorem dX5_grazingBits_34 : decode cX5_grazingBits 34 = .ok (.istore_n 2, 1) := by decide +kernel
theorem dX5_grazingBits_35 : decode cX5_grazingBits 35 = .ok (.iinc 3 1, 3) := by decide +kernel
theorem dX5_grazingBits_38 : decode cX5_grazingBits 38 = .ok (.goto (-34), 3) := by decide +kernel
theorem dX5_grazingBits_41 : decode cX5_grazingBits 41 = .ok (.iload_n 2, 1) := by decide +kernel
theorem dX5_grazingBits_42 : decode cX5_grazingBits 42 = .ok (.ireturn, 1) := by decide +kernel
theorem dX5_drivenBits_0 : decode cX5_drivenBits 0 = .ok (.iconst 0, 1) := by decide +kernel
theorem dX5_drivenBits_1 : decode cX5_drivenBits 1 = .ok (.istore_n 1, 1) := by decide +kernel
theorem dX5_drivenBits_2 : decode cX5_drivenBits 2 = .ok (.iconst 0, 1) := by decide +kernel
theorem dX5_drivenBits_3 : decode cX5_drivenBits 3 = .ok (.istore_n 2, 1) := by decide +kernel
theorem dX5_drivenBits_4 : decode cX5_drivenBits 4 = .ok (.iload_n 2, 1) := by decide +kernel
theorem dX5_drivenBits_5 : decode cX5_drivenBits 5 = .ok (.bipush 12, 2) := by decide +kernel
theorem dX5_drivenBits_7 : decode cX5_drivenBits 7 = .ok (.if_icmp .ge 42, 3) := by decide +kernel
theorem dX5_drivenBits_10 : decode cX5_drivenBits 10 = .ok (.aload_n 0, 1) := by decide +kernel
theorem dX5_drivenBits_11 : decode cX5_drivenBits 11 = .ok (.getfield 15, 3) := by decide +kernel
theorem dX5_drivenBits_14 : decode cX5_drivenBits 14 = .ok (.iload_n 2, 1) := by decide +kernel
theorem dX5_drivenBits_15 : decode cX5_drivenBits 15 = .ok (.iaload, 1) := by decide +kernel
theorem dX5_drivenBits_16 : decode cX5_drivenBits 16 = .ok (.ifCond .le 27, 3) := by decide +kernel
theorem dX5_drivenBits_19 : decode cX5_drivenBits 19 = .ok (.aload_n 0, 1) := by decide +kernel
theorem dX5_drivenBits_20 : decode cX5_drivenBits 20 = .ok (.getfield 18, 3) := by decide +kernel
theorem dX5_drivenBits_23 : decode cX5_drivenBits 23 = .ok (.iload_n 2, 1) := by decide +kernel
theorem dX5_drivenBits_24 : decode cX5_drivenBits 24 = .ok (.iaload, 1) := by decide +kernel
theorem dX5_drivenBits_25 : decode cX5_drivenBits 25 = .ok (.aload_n 0, 1) := by decide +kernel
theorem dX5_drivenBits_26 : decode cX5_drivenBits 26 = .ok (.getfield 43, 3) := by decide +kernel
theorem dX5_drivenBits_29 : decode cX5_drivenBits 29 = .ok (.getfield 95, 3) := by decide +kernel
theorem dX5_drivenBits_32 : decode cX5_drivenBits 32 = .ok (.iload_n 2, 1) := by decide +kernel
theorem dX5_drivenBits_33 : decode cX5_drivenBits 33 = .ok (.iaload, 1) := by decide +kernel
theorem dX5_drivenBits_34 : decode cX5_drivenBits 34 = .ok (.if_icmp .eq 9, 3) := by decide +kernel
theorem dX5_drivenBits_37 : decode cX5_drivenBits 37 = .ok (.iload_n 1, 1) := by decide +kernel
theorem dX5_drivenBits_38 : decode cX5_drivenBits 38 = .ok (.iconst 1, 1) := by decide +kernel
theorem dX5_drivenBits_39 : decode cX5_drivenBits 39 = .ok (.iload_n 2, 1) := by decide +kernel
theorem dX5_drivenBits_40 : decode cX5_drivenBits 40 = .ok (.ishl, 1) := by decide +kernel
theorem dX5_drivenBits_41 : decode cX5_drivenBits 41 = .ok (.ior, 1) := by decide +kernel
theorem dX5_drivenBits_42 : decode cX5_drivenBits 42 = .ok (.istore_n 1, 1) := by decide +kernel
theorem dX5_drivenBits_43 : decode cX5_drivenBits 43 = .ok (.iinc 2 1, 3) := by decide +kernel
theorem dX5_drivenBits_46 : decode cX5_drivenBits 46 = .ok (.goto (-42), 3) := by decide +kernel
theorem dX5_drivenBits_49 : decode cX5_drivenBits 49 = .ok (.iload_n 1, 1) := by decide +kernel
theorem dX5_drivenBits_50 : decode cX5_drivenBits 50 = .ok (.ireturn, 1) := by decide +kernel
theorem dX5_allGrass_0 : decode cX5_allGrass 0 = .ok (.iconst 0, 1) := by decide +kernel
theorem dX5_allGrass_1 : decode cX5_allGrass 1 = .ok (.istore_n 1, 1) := by decide +kernel
theorem dX5_allGrass_2 : decode cX5_allGrass 2 = .ok (.iconst 0, 1) := by decide +kernel
theorem dX5_allGrass_3 : decode cX5_allGrass 3 = .ok (.istore_n 2, 1) := by decide +kernel
theorem dX5_allGrass_4 : decode cX5_allGrass 4 = .ok (.iload_n 2, 1) := by decide +kernel
theorem dX5_allGrass_5 : decode cX5_allGrass 5 = .ok (.bipush 6, 2) := by decide +kernel
theorem dX5_allGrass_7 : decode cX5_allGrass 7 = .ok (.if_icmp .ge 18, 3) := by decide +kernel
theorem dX5_allGrass_10 : decode cX5_allGrass 10 = .ok (.iload_n 1, 1) := by decide +kernel
theorem dX5_allGrass_11 : decode cX5_allGrass 11 = .ok (.aload_n 0, 1) := by decide +kernel
theorem dX5_allGrass_12 : decode cX5_allGrass 12 = .ok (.getfield 9, 3) := by decide +kernel
theorem dX5_allGrass_15 : decode cX5_allGrass 15 = .ok (.iload_n 2, 1) := by decide +kernel
theorem dX5_allGrass_16 : decode cX5_allGrass 16 = .ok (.iaload, 1) := by decide +kernel
theorem dX5_allGrass_17 : decode cX5_allGrass 17 = .ok (.iadd, 1) := by decide +kernel
theorem dX5_allGrass_18 : decode cX5_allGrass 18 = .ok (.istore_n 1, 1) := by decide +kernel
theorem dX5_allGrass_19 : decode cX5_allGrass 19 = .ok (.iinc 2 1, 3) := by decide +kernel
theorem dX5_allGrass_22 : decode cX5_allGrass 22 = .ok (.goto (-18), 3) := by decide +kernel
theorem dX5_allGrass_25 : decode cX5_allGrass 25 = .ok (.iload_n 1, 1) := by decide +kernel
theorem dX5_allGrass_26 : decode cX5_allGrass 26 = .ok (.ireturn, 1) := by decide +kernel
theorem dX5_weightOf_0 : decode cX5_weightOf 0 = .ok (.iconst 0, 1) := by decide +kernel
theorem dX5_weightOf_1 : decode cX5_weightOf 1 = .ok (.istore_n 2, 1) := by decide +kernel
theorem dX5_weightOf_2 : decode cX5_weightOf 2 = .ok (.iconst 0, 1) := by decide +kernel
theorem dX5_weightOf_3 : decode cX5_weightOf 3 = .ok (.istore_n 3, 1) := by decide +kernel
theorem dX5_weightOf_4 : decode cX5_weightOf 4 = .ok (.iload_n 3, 1) := by decide +kernel
theorem dX5_weightOf_5 : decode cX5_weightOf 5 = .ok (.bipush 12, 2) := by decide +kernel
theorem dX5_weightOf_7 : decode cX5_weightOf 7 = .ok (.if_icmp .ge 30, 3) := by decide +kernel
theorem dX5_weightOf_10 : decode cX5_weightOf 10 = .ok (.iload_n 2, 1) := by decide +kernel
theorem dX5_weightOf_11 : decode cX5_weightOf 11 = .ok (.iload_n 1, 1) := by decide +kernel
theorem dX5_weightOf_12 : decode cX5_weightOf 12 = .ok (.iconst 1, 1) := by decide +kernel
theorem dX5_weightOf_13 : decode cX5_weightOf 13 = .ok (.iload_n 3, 1) := by decide +kernel
theorem dX5_weightOf_14 : decode cX5_weightOf 14 = .ok (.ishl, 1) := by decide +kernel
theorem dX5_weightOf_15 : decode cX5_weightOf 15 = .ok (.iand, 1) := by decide +kernel
theorem dX5_weightOf_16 : decode cX5_weightOf 16 = .ok (.ifCond .eq 12, 3) := by decide +kernel
theorem dX5_weightOf_19 : decode cX5_weightOf 19 = .ok (.aload_n 0, 1) := by decide +kernel
theorem dX5_weightOf_20 : decode cX5_weightOf 20 = .ok (.getfield 15, 3) := by decide +kernel
theorem dX5_weightOf_23 : decode cX5_weightOf 23 = .ok (.iload_n 3, 1) := by decide +kernel
theorem dX5_weightOf_24 : decode cX5_weightOf 24 = .ok (.iaload, 1) := by decide +kernel
theorem dX5_weightOf_25 : decode cX5_weightOf 25 = .ok (.goto 4, 3) := by decide +kernel
theorem dX5_weightOf_28 : decode cX5_weightOf 28 = .ok (.iconst 0, 1) := by decide +kernel
theorem dX5_weightOf_29 : decode cX5_weightOf 29 = .ok (.iadd, 1) := by decide +kernel
theorem dX5_weightOf_30 : decode cX5_weightOf 30 = .ok (.istore_n 2, 1) := by decide +kernel
theorem dX5_weightOf_31 : decode cX5_weightOf 31 = .ok (.iinc 3 1, 3) := by decide +kernel
theorem dX5_weightOf_34 : decode cX5_weightOf 34 = .ok (.goto (-30), 3) := by decide +kernel
theorem dX5_weightOf_37 : decode cX5_weightOf 37 = .ok (.iload_n 2, 1) := by decide +kernel
theorem dX5_weightOf_38 : decode cX5_weightOf 38 = .ok (.ireturn, 1) := by decide +kernel
theorem dX5_eatenBy_0 : decode cX5_eatenBy 0 = .ok (.aload_n 0, 1) := by decide +kernel
theorem dX5_eatenBy_1 : decode cX5_eatenBy 1 = .ok (.invokevirtual 111, 3) := by decide +kernel
theorem dX5_eatenBy_4 : decode cX5_eatenBy 4 = .ok (.aload_n 0, 1) := by decide +kernel
theorem dX5_eatenBy_5 : decode cX5_eatenBy 5 = .ok (.iload_n 1, 1) := by decide +kernel
theorem dX5_eatenBy_6 : decode cX5_eatenBy 6 = .ok (.invokevirtual 142, 3) := by decide +kernel
theorem dX5_eatenBy_9 : decode cX5_eatenBy 9 = .ok (.ireturn, 1) := by decide +kernel
theorem dX5_appetiteSum_0 : decode cX5_appetiteSum 0 = .ok (.iconst 0, 1) := by decide +kernel
theorem dX5_appetiteSum_1 : decode cX5_appetiteSum 1 = .ok (.istore_n 2, 1) := by decide +kernel
theorem dX5_appetiteSum_2 : decode cX5_appetiteSum 2 = .ok (.iconst 0, 1) := by decide +kernel
theorem dX5_appetiteSum_3 : decode cX5_appetiteSum 3 = .ok (.istore_n 3, 1) := by decide +kernel
theorem dX5_appetiteSum_4 : decode cX5_appetiteSum 4 = .ok (.iload_n 3, 1) := by decide +kernel
theorem dX5_appetiteSum_5 : decode cX5_appetiteSum 5 = .ok (.bipush 12, 2) := by decide +kernel
theorem dX5_appetiteSum_7 : decode cX5_appetiteSum 7 = .ok (.if_icmp .ge 30, 3) := by decide +kernel
theorem dX5_appetiteSum_10 : decode cX5_appetiteSum 10 = .ok (.iload_n 2, 1) := by decide +kernel
theorem dX5_appetiteSum_11 : decode cX5_appetiteSum 11 = .ok (.iload_n 1, 1) := by decide +kernel
theorem dX5_appetiteSum_12 : decode cX5_appetiteSum 12 = .ok (.iconst 1, 1) := by decide +kernel
theorem dX5_appetiteSum_13 : decode cX5_appetiteSum 13 = .ok (.iload_n 3, 1) := by decide +kernel
theorem dX5_appetiteSum_14 : decode cX5_appetiteSum 14 = .ok (.ishl, 1) := by decide +kernel
theorem dX5_appetiteSum_15 : decode cX5_appetiteSum 15 = .ok (.iand, 1) := by decide +kernel
theorem dX5_appetiteSum_16 : decode cX5_appetiteSum 16 = .ok (.ifCond .eq 12, 3) := by decide +kernel
theorem dX5_appetiteSum_19 : decode cX5_appetiteSum 19 = .ok (.aload_n 0, 1) := by decide +kernel
theorem dX5_appetiteSum_20 : decode cX5_appetiteSum 20 = .ok (.getfield 30, 3) := by decide +kernel
theorem dX5_appetiteSum_23 : decode cX5_appetiteSum 23 = .ok (.iload_n 3, 1) := by decide +kernel
theorem dX5_appetiteSum_24 : decode cX5_appetiteSum 24 = .ok (.iaload, 1) := by decide +kernel
theorem dX5_appetiteSum_25 : decode cX5_appetiteSum 25 = .ok (.goto 4, 3) := by decide +kernel
theorem dX5_appetiteSum_28 : decode cX5_appetiteSum 28 = .ok (.iconst 0, 1) := by decide +kernel
theorem dX5_appetiteSum_29 : decode cX5_appetiteSum 29 = .ok (.iadd, 1) := by decide +kernel
theorem dX5_appetiteSum_30 : decode cX5_appetiteSum 30 = .ok (.istore_n 2, 1) := by decide +kernel
theorem dX5_appetiteSum_31 : decode cX5_appetiteSum 31 = .ok (.iinc 3 1, 3) := by decide +kernel
theorem dX5_appetiteSum_34 : decode cX5_appetiteSum 34 = .ok (.goto (-30), 3) := by decide +kernel
theorem dX5_appetiteSum_37 : decode cX5_appetiteSum 37 = .ok (.iload_n 2, 1) := by decide +kernel
theorem dX5_appetiteSum_38 : decode cX5_appetiteSum 38 = .ok (.ireturn, 1) := by decide +kernel
theorem dX5_overrunBits_0 : decode cX5_overrunBits 0 = .ok (.aload_n 0, 1) := by decide +kernel
theorem dX5_overrunBits_1 : decode cX5_overrunBits 1 = .ok (.invokevirtual 111, 3) := by decide +kernel
theorem dX5_overrunBits_4 : decode cX5_overrunBits 4 = .ok (.iconst 0, 1) := by decide +kernel
theorem dX5_overrunBits_5 : decode cX5_overrunBits 5 = .ok (.istore_n 1, 1) := by decide +kernel
theorem dX5_overrunBits_6 : decode cX5_overrunBits 6 = .ok (.iconst 0, 1) := by decide +kernel
theorem dX5_overrunBits_7 : decode cX5_overrunBits 7 = .ok (.istore_n 2, 1) := by decide +kernel
theorem dX5_overrunBits_8 : decode cX5_overrunBits 8 = .ok (.iload_n 2, 1) := by decide +kernel
theorem dX5_overrunBits_9 : decode cX5_overrunBits 9 = .ok (.bipush 6, 2) := by decide +kernel
theorem dX5_overrunBits_11 : decode cX5_overrunBits 11 = .ok (.if_icmp .ge 33, 3) := by decide +kernel
theorem dX5_overrunBits_14 : decode cX5_overrunBits 14 = .ok (.aload_n 0, 1) := by decide +kernel
theorem dX5_overrunBits_15 : decode cX5_overrunBits 15 = .ok (.aload_n 0, 1) := by decide +kernel
theorem dX5_overrunBits_16 : decode cX5_overrunBits 16 = .ok (.iload_n 2, 1) := by decide +kernel
theorem dX5_overrunBits_17 : decode cX5_overrunBits 17 = .ok (.invokevirtual 145, 3) := by decide +kernel
theorem dX5_overrunBits_20 : decode cX5_overrunBits 20 = .ok (.invokevirtual 142, 3) := by decide +kernel
theorem dX5_overrunBits_23 : decode cX5_overrunBits 23 = .ok (.aload_n 0, 1) := by decide +kernel
theorem dX5_overrunBits_24 : decode cX5_overrunBits 24 = .ok (.getfield 9, 3) := by decide +kernel
theorem dX5_overrunBits_27 : decode cX5_overrunBits 27 = .ok (.iload_n 2, 1) := by decide +kernel
theorem dX5_overrunBits_28 : decode cX5_overrunBits 28 = .ok (.iaload, 1) := by decide +kernel
theorem dX5_overrunBits_29 : decode cX5_overrunBits 29 = .ok (.if_icmp .le 9, 3) := by decide +kernel
theorem dX5_overrunBits_32 : decode cX5_overrunBits 32 = .ok (.iload_n 1, 1) := by decide +kernel
theorem dX5_overrunBits_33 : decode cX5_overrunBits 33 = .ok (.iconst 1, 1) := by decide +kernel
theorem dX5_overrunBits_34 : decode cX5_overrunBits 34 = .ok (.iload_n 2, 1) := by decide +kernel
theorem dX5_overrunBits_35 : decode cX5_overrunBits 35 = .ok (.ishl, 1) := by decide +kernel
theorem dX5_overrunBits_36 : decode cX5_overrunBits 36 = .ok (.ior, 1) := by decide +kernel
theorem dX5_overrunBits_37 : decode cX5_overrunBits 37 = .ok (.istore_n 1, 1) := by decide +kernel
theorem dX5_overrunBits_38 : decode cX5_overrunBits 38 = .ok (.iinc 2 1, 3) := by decide +kernel
theorem dX5_overrunBits_41 : decode cX5_overrunBits 41 = .ok (.goto (-33), 3) := by decide +kernel
theorem dX5_overrunBits_44 : decode cX5_overrunBits 44 = .ok (.iload_n 1, 1) := by decide +kernel
theorem dX5_overrunBits_45 : decode cX5_overrunBits 45 = .ok (.ireturn, 1) := by decide +kernel
theorem dX5_allCoolness_0 : decode cX5_allCoolness 0 = .ok (.iconst 0, 1) := by decide +kernel
theorem dX5_allCoolness_1 : decode cX5_allCoolness 1 = .ok (.istore_n 1, 1) := by decide +kernel
theorem dX5_allCoolness_2 : decode cX5_allCoolness 2 = .ok (.iconst 0, 1) := by decide +kernel
theorem dX5_allCoolness_3 : decode cX5_allCoolness 3 = .ok (.istore_n 2, 1) := by decide +kernel
theorem dX5_allCoolness_4 : decode cX5_allCoolness 4 = .ok (.iload_n 2, 1) := by decide +kernel
theorem dX5_allCoolness_5 : decode cX5_allCoolness 5 = .ok (.bipush 6, 2) := by decide +kernel
theorem dX5_allCoolness_7 : decode cX5_allCoolness 7 = .ok (.if_icmp .ge 34, 3) := by decide +kernel
theorem dX5_allCoolness_10 : decode cX5_allCoolness 10 = .ok (.iload_n 2, 1) := by decide +kernel
theorem dX5_allCoolness_11 : decode cX5_allCoolness 11 = .ok (.iconst 1, 1) := by decide +kernel
theorem dX5_allCoolness_12 : decode cX5_allCoolness 12 = .ok (.iadd, 1) := by decide +kernel
theorem dX5_allCoolness_13 : decode cX5_allCoolness 13 = .ok (.istore_n 3, 1) := by decide +kernel
theorem dX5_allCoolness_14 : decode cX5_allCoolness 14 = .ok (.iload_n 3, 1) := by decide +kernel
theorem dX5_allCoolness_15 : decode cX5_allCoolness 15 = .ok (.bipush 6, 2) := by decide +kernel
theorem dX5_allCoolness_17 : decode cX5_allCoolness 17 = .ok (.if_icmp .ge 18, 3) := by decide +kernel
theorem dX5_allCoolness_20 : decode cX5_allCoolness 20 = .ok (.iload_n 1, 1) := by decide +kernel
theorem dX5_allCoolness_21 : decode cX5_allCoolness 21 = .ok (.aload_n 0, 1) := by decide +kernel
theorem dX5_allCoolness_22 : decode cX5_allCoolness 22 = .ok (.iload_n 2, 1) := by decide +kernel
theorem dX5_allCoolness_23 : decode cX5_allCoolness 23 = .ok (.iload_n 3, 1) := by decide +kernel
theorem dX5_allCoolness_24 : decode cX5_allCoolness 24 = .ok (.invokevirtual 104, 3) := by decide +kernel
theorem dX5_allCoolness_27 : decode cX5_allCoolness 27 = .ok (.iadd, 1) := by decide +kernel
theorem dX5_allCoolness_28 : decode cX5_allCoolness 28 = .ok (.istore_n 1, 1) := by decide +kernel
theorem dX5_allCoolness_29 : decode cX5_allCoolness 29 = .ok (.iinc 3 1, 3) := by decide +kernel
theorem dX5_allCoolness_32 : decode cX5_allCoolness 32 = .ok (.goto (-18), 3) := by decide +kernel
theorem dX5_allCoolness_35 : decode cX5_allCoolness 35 = .ok (.iinc 2 1, 3) := by decide +kernel
theorem dX5_allCoolness_38 : decode cX5_allCoolness 38 = .ok (.goto (-34), 3) := by decide +kernel
theorem dX5_allCoolness_41 : decode cX5_allCoolness 41 = .ok (.iload_n 1, 1) := by decide +kernel
theorem dX5_allCoolness_42 : decode cX5_allCoolness 42 = .ok (.ireturn, 1) := by decide +kernel
theorem dX5_firstCoolest_0 : decode cX5_firstCoolest 0 = .ok (.iconst (-1), 1) := by decide +kernel
theorem dX5_firstCoolest_1 : decode cX5_firstCoolest 1 = .ok (.istore_n 1, 1) := by decide +kernel
theorem dX5_firstCoolest_2 : decode cX5_firstCoolest 2 = .ok (.iconst 0, 1) := by decide +kernel
theorem dX5_firstCoolest_3 : decode cX5_firstCoolest 3 = .ok (.istore_n 2, 1) := by decide +kernel
theorem dX5_firstCoolest_4 : decode cX5_firstCoolest 4 = .ok (.iconst 0, 1) := by decide +kernel
theorem dX5_firstCoolest_5 : decode cX5_firstCoolest 5 = .ok (.istore_n 3, 1) := by decide +kernel
theorem dX5_firstCoolest_6 : decode cX5_firstCoolest 6 = .ok (.iload_n 3, 1) := by decide +kernel
theorem dX5_firstCoolest_7 : decode cX5_firstCoolest 7 = .ok (.bipush 6, 2) := by decide +kernel
theorem dX5_firstCoolest_9 : decode cX5_firstCoolest 9 = .ok (.if_icmp .ge 54, 3) := by decide +kernel
theorem dX5_firstCoolest_12 : decode cX5_firstCoolest 12 = .ok (.iload_n 3, 1) := by decide +kernel
theorem dX5_firstCoolest_13 : decode cX5_firstCoolest 13 = .ok (.iconst 1, 1) := by decide +kernel
theorem dX5_firstCoolest_14 : decode cX5_firstCoolest 14 = .ok (.iadd, 1) := by decide +kernel
theorem dX5_firstCoolest_15 : decode cX5_firstCoolest 15 = .ok (.istore 4, 2) := by decide +kernel
theorem dX5_firstCoolest_17 : decode cX5_firstCoolest 17 = .ok (.iload 4, 2) := by decide +kernel
theorem dX5_firstCoolest_19 : decode cX5_firstCoolest 19 = .ok (.bipush 6, 2) := by decide +kernel
theorem dX5_firstCoolest_21 : decode cX5_firstCoolest 21 = .ok (.if_icmp .ge 36, 3) := by decide +kernel
theorem dX5_firstCoolest_24 : decode cX5_firstCoolest 24 = .ok (.aload_n 0, 1) := by decide +kernel
theorem dX5_firstCoolest_25 : decode cX5_firstCoolest 25 = .ok (.iload_n 3, 1) := by decide +kernel
theorem dX5_firstCoolest_26 : decode cX5_firstCoolest 26 = .ok (.iload 4, 2) := by decide +kernel
theorem dX5_firstCoolest_28 : decode cX5_firstCoolest 28 = .ok (.invokevirtual 104, 3) := by decide +kernel
theorem dX5_firstCoolest_31 : decode cX5_firstCoolest 31 = .ok (.iload_n 2, 1) := by decide +kernel
theorem dX5_firstCoolest_32 : decode cX5_firstCoolest 32 = .ok (.if_icmp .le 19, 3) := by decide +kernel
theorem dX5_firstCoolest_35 : decode cX5_firstCoolest 35 = .ok (.aload_n 0, 1) := by decide +kernel
theorem dX5_firstCoolest_36 : decode cX5_firstCoolest 36 = .ok (.iload_n 3, 1) := by decide +kernel
theorem dX5_firstCoolest_37 : decode cX5_firstCoolest 37 = .ok (.iload 4, 2) := by decide +kernel
theorem dX5_firstCoolest_39 : decode cX5_firstCoolest 39 = .ok (.invokevirtual 104, 3) := by decide +kernel
theorem dX5_firstCoolest_42 : decode cX5_firstCoolest 42 = .ok (.istore_n 2, 1) := by decide +kernel
theorem dX5_firstCoolest_43 : decode cX5_firstCoolest 43 = .ok (.bipush 10, 2) := by decide +kernel
theorem dX5_firstCoolest_45 : decode cX5_firstCoolest 45 = .ok (.iload_n 3, 1) := by decide +kernel
theorem dX5_firstCoolest_46 : decode cX5_firstCoolest 46 = .ok (.imul, 1) := by decide +kernel
theorem dX5_firstCoolest_47 : decode cX5_firstCoolest 47 = .ok (.iload 4, 2) := by decide +kernel
theorem dX5_firstCoolest_49 : decode cX5_firstCoolest 49 = .ok (.iadd, 1) := by decide +kernel
theorem dX5_firstCoolest_50 : decode cX5_firstCoolest 50 = .ok (.istore_n 1, 1) := by decide +kernel
theorem dX5_firstCoolest_51 : decode cX5_firstCoolest 51 = .ok (.iinc 4 1, 3) := by decide +kernel
theorem dX5_firstCoolest_54 : decode cX5_firstCoolest 54 = .ok (.goto (-37), 3) := by decide +kernel
theorem dX5_firstCoolest_57 : decode cX5_firstCoolest 57 = .ok (.iinc 3 1, 3) := by decide +kernel
theorem dX5_firstCoolest_60 : decode cX5_firstCoolest 60 = .ok (.goto (-54), 3) := by decide +kernel
theorem dX5_firstCoolest_63 : decode cX5_firstCoolest 63 = .ok (.iload_n 1, 1) := by decide +kernel
theorem dX5_firstCoolest_64 : decode cX5_firstCoolest 64 = .ok (.ireturn, 1) := by decide +kernel
theorem dX5_firstHeaviest_0 : decode cX5_firstHeaviest 0 = .ok (.aload_n 0, 1) := by decide +kernel
theorem dX5_firstHeaviest_1 : decode cX5_firstHeaviest 1 = .ok (.aload_n 0, 1) := by decide +kernel
theorem dX5_firstHeaviest_2 : decode cX5_firstHeaviest 2 = .ok (.getfield 15, 3) := by decide +kernel
theorem dX5_firstHeaviest_5 : decode cX5_firstHeaviest 5 = .ok (.iconst 1, 1) := by decide +kernel
theorem dX5_firstHeaviest_6 : decode cX5_firstHeaviest 6 = .ok (.invokevirtual 148, 3) := by decide +kernel
theorem dX5_firstHeaviest_9 : decode cX5_firstHeaviest 9 = .ok (.ireturn, 1) := by decide +kernel
theorem dX5_firstLightest_0 : decode cX5_firstLightest 0 = .ok (.aload_n 0, 1) := by decide +kernel
theorem dX5_firstLightest_1 : decode cX5_firstLightest 1 = .ok (.aload_n 0, 1) := by decide +kernel
theorem dX5_firstLightest_2 : decode cX5_firstLightest 2 = .ok (.getfield 15, 3) := by decide +kernel
theorem dX5_firstLightest_5 : decode cX5_firstLightest 5 = .ok (.iconst (-1), 1) := by decide +kernel
theorem dX5_firstLightest_6 : decode cX5_firstLightest 6 = .ok (.invokevirtual 148, 3) := by decide +kernel
theorem dX5_firstLightest_9 : decode cX5_firstLightest 9 = .ok (.ireturn, 1) := by decide +kernel
theorem dX5_firstOldest_0 : decode cX5_firstOldest 0 = .ok (.aload_n 0, 1) := by decide +kernel
theorem dX5_firstOldest_1 : decode cX5_firstOldest 1 = .ok (.aload_n 0, 1) := by decide +kernel
theorem dX5_firstOldest_2 : decode cX5_firstOldest 2 = .ok (.getfield 21, 3) := by decide +kernel
theorem dX5_firstOldest_5 : decode cX5_firstOldest 5 = .ok (.iconst 1, 1) := by decide +kernel
theorem dX5_firstOldest_6 : decode cX5_firstOldest 6 = .ok (.invokevirtual 148, 3) := by decide +kernel
theorem dX5_firstOldest_9 : decode cX5_firstOldest 9 = .ok (.ireturn, 1) := by decide +kernel
theorem dX5_firstBy_0 : decode cX5_firstBy 0 = .ok (.iconst (-1), 1) := by decide +kernel
theorem dX5_firstBy_1 : decode cX5_firstBy 1 = .ok (.istore_n 3, 1) := by decide +kernel
theorem dX5_firstBy_2 : decode cX5_firstBy 2 = .ok (.iconst 0, 1) := by decide +kernel
theorem dX5_firstBy_3 : decode cX5_firstBy 3 = .ok (.istore 4, 2) := by decide +kernel
theorem dX5_firstBy_5 : decode cX5_firstBy 5 = .ok (.iconst 0, 1) := by decide +kernel
theorem dX5_firstBy_6 : decode cX5_firstBy 6 = .ok (.istore 5, 2) := by decide +kernel
theorem dX5_firstBy_8 : decode cX5_firstBy 8 = .ok (.iload 5, 2) := by decide +kernel
theorem dX5_firstBy_10 : decode cX5_firstBy 10 = .ok (.bipush 12, 2) := by decide +kernel
theorem dX5_firstBy_12 : decode cX5_firstBy 12 = .ok (.if_icmp .ge 53, 3) := by decide +kernel
theorem dX5_firstBy_15 : decode cX5_firstBy 15 = .ok (.iload 5, 2) := by decide +kernel
theorem dX5_firstBy_17 : decode cX5_firstBy 17 = .ok (.aload_n 1, 1) := by decide +kernel
theorem dX5_firstBy_18 : decode cX5_firstBy 18 = .ok (.arraylength, 1) := by decide +kernel
theorem dX5_firstBy_19 : decode cX5_firstBy 19 = .ok (.if_icmp .ge 46, 3) := by decide +kernel
theorem dX5_firstBy_22 : decode cX5_firstBy 22 = .ok (.iload_n 2, 1) := by decide +kernel
theorem dX5_firstBy_23 : decode cX5_firstBy 23 = .ok (.aload_n 1, 1) := by decide +kernel
theorem dX5_firstBy_24 : decode cX5_firstBy 24 = .ok (.iload 5, 2) := by decide +kernel
theorem dX5_firstBy_26 : decode cX5_firstBy 26 = .ok (.iaload, 1) := by decide +kernel
theorem dX5_firstBy_27 : decode cX5_firstBy 27 = .ok (.imul, 1) := by decide +kernel
theorem dX5_firstBy_28 : decode cX5_firstBy 28 = .ok (.istore 6, 2) := by decide +kernel
theorem dX5_firstBy_30 : decode cX5_firstBy 30 = .ok (.aload_n 0, 1) := by decide +kernel
theorem dX5_firstBy_31 : decode cX5_firstBy 31 = .ok (.getfield 15, 3) := by decide +kernel
theorem dX5_firstBy_34 : decode cX5_firstBy 34 = .ok (.iload 5, 2) := by decide +kernel
theorem dX5_firstBy_36 : decode cX5_firstBy 36 = .ok (.iaload, 1) := by decide +kernel
theorem dX5_firstBy_37 : decode cX5_firstBy 37 = .ok (.ifCond .le 22, 3) := by decide +kernel
theorem dX5_firstBy_40 : decode cX5_firstBy 40 = .ok (.iload_n 3, 1) := by decide +kernel
theorem dX5_firstBy_41 : decode cX5_firstBy 41 = .ok (.iconst (-1), 1) := by decide +kernel
theorem dX5_firstBy_42 : decode cX5_firstBy 42 = .ok (.if_icmp .eq 10, 3) := by decide +kernel
theorem dX5_firstBy_45 : decode cX5_firstBy 45 = .ok (.iload 6, 2) := by decide +kernel
theorem dX5_firstBy_47 : decode cX5_firstBy 47 = .ok (.iload 4, 2) := by decide +kernel
theorem dX5_firstBy_49 : decode cX5_firstBy 49 = .ok (.if_icmp .le 10, 3) := by decide +kernel
theorem dX5_firstBy_52 : decode cX5_firstBy 52 = .ok (.iload 5, 2) := by decide +kernel
theorem dX5_firstBy_54 : decode cX5_firstBy 54 = .ok (.istore_n 3, 1) := by decide +kernel
theorem dX5_firstBy_55 : decode cX5_firstBy 55 = .ok (.iload 6, 2) := by decide +kernel
theorem dX5_firstBy_57 : decode cX5_firstBy 57 = .ok (.istore 4, 2) := by decide +kernel
theorem dX5_firstBy_59 : decode cX5_firstBy 59 = .ok (.iinc 5 1, 3) := by decide +kernel
theorem dX5_firstBy_62 : decode cX5_firstBy 62 = .ok (.goto (-54), 3) := by decide +kernel
theorem dX5_firstBy_65 : decode cX5_firstBy 65 = .ok (.iload_n 3, 1) := by decide +kernel
theorem dX5_firstBy_66 : decode cX5_firstBy 66 = .ok (.ireturn, 1) := by decide +kernel
theorem dX5_givenBelow_0 : decode cX5_givenBelow 0 = .ok (.iconst 0, 1) := by decide +kernel
theorem dX5_givenBelow_1 : decode cX5_givenBelow 1 = .ok (.istore_n 3, 1) := by decide +kernel
theorem dX5_givenBelow_2 : decode cX5_givenBelow 2 = .ok (.iconst 0, 1) := by decide +kernel
theorem dX5_givenBelow_3 : decode cX5_givenBelow 3 = .ok (.istore 4, 2) := by decide +kernel
theorem dX5_givenBelow_5 : decode cX5_givenBelow 5 = .ok (.iload 4, 2) := by decide +kernel
theorem dX5_givenBelow_7 : decode cX5_givenBelow 7 = .ok (.bipush 6, 2) := by decide +kernel
theorem dX5_givenBelow_9 : decode cX5_givenBelow 9 = .ok (.if_icmp .ge 35, 3) := by decide +kernel
theorem dX5_givenBelow_12 : decode cX5_givenBelow 12 = .ok (.iload_n 2, 1) := by decide +kernel
theorem dX5_givenBelow_13 : decode cX5_givenBelow 13 = .ok (.iconst 1, 1) := by decide +kernel
theorem dX5_givenBelow_14 : decode cX5_givenBelow 14 = .ok (.iload 4, 2) := by decide +kernel
theorem dX5_givenBelow_16 : decode cX5_givenBelow 16 = .ok (.ishl, 1) := by decide +kernel
theorem dX5_givenBelow_17 : decode cX5_givenBelow 17 = .ok (.iand, 1) := by decide +kernel
theorem dX5_givenBelow_18 : decode cX5_givenBelow 18 = .ok (.ifCond .eq 20, 3) := by decide +kernel
theorem dX5_givenBelow_21 : decode cX5_givenBelow 21 = .ok (.iload_n 3, 1) := by decide +kernel
theorem dX5_givenBelow_22 : decode cX5_givenBelow 22 = .ok (.iload_n 1, 1) := by decide +kernel
theorem dX5_givenBelow_23 : decode cX5_givenBelow 23 = .ok (.bipush 99, 2) := by decide +kernel
theorem dX5_givenBelow_25 : decode cX5_givenBelow 25 = .ok (.aload_n 0, 1) := by decide +kernel
theorem dX5_givenBelow_26 : decode cX5_givenBelow 26 = .ok (.getfield 9, 3) := by decide +kernel
theorem dX5_givenBelow_29 : decode cX5_givenBelow 29 = .ok (.iload 4, 2) := by decide +kernel
theorem dX5_givenBelow_31 : decode cX5_givenBelow 31 = .ok (.iaload, 1) := by decide +kernel
theorem dX5_givenBelow_32 : decode cX5_givenBelow 32 = .ok (.isub, 1) := by decide +kernel
theorem dX5_givenBelow_33 : decode cX5_givenBelow 33 = .ok (.invokestatic 98, 3) := by decide +kernel
theorem dX5_givenBelow_36 : decode cX5_givenBelow 36 = .ok (.iadd, 1) := by decide +kernel
theorem dX5_givenBelow_37 : decode cX5_givenBelow 37 = .ok (.istore_n 3, 1) := by decide +kernel
theorem dX5_givenBelow_38 : decode cX5_givenBelow 38 = .ok (.iinc 4 1, 3) := by decide +kernel
theorem dX5_givenBelow_41 : decode cX5_givenBelow 41 = .ok (.goto (-36), 3) := by decide +kernel
theorem dX5_givenBelow_44 : decode cX5_givenBelow 44 = .ok (.iload_n 3, 1) := by decide +kernel
theorem dX5_givenBelow_45 : decode cX5_givenBelow 45 = .ok (.ireturn, 1) := by decide +kernel
theorem dX6_init_0 : decode cX6_init 0 = .ok (.aload_n 0, 1) := by decide +kernel
theorem dX6_init_1 : decode cX6_init 1 = .ok (.invokespecial 5, 3) := by decide +kernel
theorem dX6_init_4 : decode cX6_init 4 = .ok (.aload_n 0, 1) := by decide +kernel
theorem dX6_init_5 : decode cX6_init 5 = .ok (.sipush 1328, 3) := by decide +kernel
theorem dX6_init_8 : decode cX6_init 8 = .ok (.newarray .int, 2) := by decide +kernel
theorem dX6_init_10 : decode cX6_init 10 = .ok (.putfield 11, 3) := by decide +kernel
theorem dX6_init_13 : decode cX6_init 13 = .ok (.aload_n 0, 1) := by decide +kernel
theorem dX6_init_14 : decode cX6_init 14 = .ok (.sipush 4233, 3) := by decide +kernel
theorem dX6_init_17 : decode cX6_init 17 = .ok (.newarray .int, 2) := by decide +kernel
theorem dX6_init_19 : decode cX6_init 19 = .ok (.putfield 17, 3) := by decide +kernel
theorem dX6_init_22 : decode cX6_init 22 = .ok (.aload_n 0, 1) := by decide +kernel
theorem dX6_init_23 : decode cX6_init 23 = .ok (.iconst 3, 1) := by decide +kernel
theorem dX6_init_24 : decode cX6_init 24 = .ok (.newarray .int, 2) := by decide +kernel
theorem dX6_init_26 : decode cX6_init 26 = .ok (.putfield 20, 3) := by decide +kernel
theorem dX6_init_29 : decode cX6_init 29 = .ok (.aload_n 0, 1) := by decide +kernel
theorem dX6_init_30 : decode cX6_init 30 = .ok (.iconst 0, 1) := by decide +kernel
theorem dX6_init_31 : decode cX6_init 31 = .ok (.putfield 23, 3) := by decide +kernel
theorem dX6_init_34 : decode cX6_init 34 = .ok (.aload_n 0, 1) := by decide +kernel
theorem dX6_init_35 : decode cX6_init 35 = .ok (.iconst 0, 1) := by decide +kernel
theorem dX6_init_36 : decode cX6_init 36 = .ok (.putfield 27, 3) := by decide +kernel
theorem dX6_init_39 : decode cX6_init 39 = .ok (.return_, 1) := by decide +kernel
theorem dX6_clear_0 : decode cX6_clear 0 = .ok (.aload_n 0, 1) := by decide +kernel
theorem dX6_clear_1 : decode cX6_clear 1 = .ok (.iconst 0, 1) := by decide +kernel
theorem dX6_clear_2 : decode cX6_clear 2 = .ok (.putfield 23, 3) := by decide +kernel
theorem dX6_clear_5 : decode cX6_clear 5 = .ok (.aload_n 0, 1) := by decide +kernel
theorem dX6_clear_6 : decode cX6_clear 6 = .ok (.iconst 0, 1) := by decide +kernel
theorem dX6_clear_7 : decode cX6_clear 7 = .ok (.putfield 27, 3) := by decide +kernel
theorem dX6_clear_10 : decode cX6_clear 10 = .ok (.return_, 1) := by decide +kernel
theorem dX6_keepWork_0 : decode cX6_keepWork 0 = .ok (.aload_n 0, 1) := by decide +kernel
theorem dX6_keepWork_1 : decode cX6_keepWork 1 = .ok (.getfield 23, 3) := by decide +kernel
theorem dX6_keepWork_4 : decode cX6_keepWork 4 = .ok (.ifCond .lt 37, 3) := by decide +kernel
theorem dX6_keepWork_7 : decode cX6_keepWork 7 = .ok (.aload_n 0, 1) := by decide +kernel
theorem dX6_keepWork_8 : decode cX6_keepWork 8 = .ok (.getfield 23, 3) := by decide +kernel
theorem dX6_keepWork_11 : decode cX6_keepWork 11 = .ok (.bipush 16, 2) := by decide +kernel
theorem dX6_keepWork_13 : decode cX6_keepWork 13 = .ok (.if_icmp .ge 28, 3) := by decide +kernel
theorem dX6_keepWork_16 : decode cX6_keepWork 16 = .ok (.aload_n 1, 1) := by decide +kernel
theorem dX6_keepWork_17 : decode cX6_keepWork 17 = .ok (.aload_n 0, 1) := by decide +kernel
theorem dX6_keepWork_18 : decode cX6_keepWork 18 = .ok (.getfield 11, 3) := by decide +kernel
theorem dX6_keepWork_21 : decode cX6_keepWork 21 = .ok (.aload_n 0, 1) := by decide +kernel
theorem dX6_keepWork_22 : decode cX6_keepWork 22 = .ok (.getfield 23, 3) := by decide +kernel
theorem dX6_keepWork_25 : decode cX6_keepWork 25 = .ok (.bipush 83, 2) := by decide +kernel
theorem dX6_keepWork_27 : decode cX6_keepWork 27 = .ok (.imul, 1) := by decide +kernel
theorem dX6_keepWork_28 : decode cX6_keepWork 28 = .ok (.invokevirtual 30, 3) := by decide +kernel
theorem dX6_keepWork_31 : decode cX6_keepWork 31 = .ok (.aload_n 0, 1) := by decide +kernel
theorem dX6_keepWork_32 : decode cX6_keepWork 32 = .ok (.dup, 1) := by decide +kernel
theorem dX6_keepWork_33 : decode cX6_keepWork 33 = .ok (.getfield 23, 3) := by decide +kernel
theorem dX6_keepWork_36 : decode cX6_keepWork 36 = .ok (.iconst 1, 1) := by decide +kernel
theorem dX6_keepWork_37 : decode cX6_keepWork 37 = .ok (.iadd, 1) := by decide +kernel
theorem dX6_keepWork_38 : decode cX6_keepWork 38 = .ok (.putfield 23, 3) := by decide +kernel
theorem dX6_keepWork_41 : decode cX6_keepWork 41 = .ok (.return_, 1) := by decide +kernel
theorem dX6_undoWork_0 : decode cX6_undoWork 0 = .ok (.aload_n 0, 1) := by decide +kernel
theorem dX6_undoWork_1 : decode cX6_undoWork 1 = .ok (.getfield 23, 3) := by decide +kernel
theorem dX6_undoWork_4 : decode cX6_undoWork 4 = .ok (.ifCond .gt 5, 3) := by decide +kernel
theorem dX6_undoWork_7 : decode cX6_undoWork 7 = .ok (.iconst 0, 1) := by decide +kernel
theorem dX6_undoWork_8 : decode cX6_undoWork 8 = .ok (.ireturn, 1) := by decide +kernel
theorem dX6_undoWork_9 : decode cX6_undoWork 9 = .ok (.aload_n 0, 1) := by decide +kernel
theorem dX6_undoWork_10 : decode cX6_undoWork 10 = .ok (.dup, 1) := by decide +kernel
theorem dX6_undoWork_11 : decode cX6_undoWork 11 = .ok (.getfield 23, 3) := by decide +kernel
theorem dX6_undoWork_14 : decode cX6_undoWork 14 = .ok (.iconst 1, 1) := by decide +kernel
theorem dX6_undoWork_15 : decode cX6_undoWork 15 = .ok (.isub, 1) := by decide +kernel
theorem dX6_undoWork_16 : decode cX6_undoWork 16 = .ok (.putfield 23, 3) := by decide +kernel
theorem dX6_undoWork_19 : decode cX6_undoWork 19 = .ok (.aload_n 1, 1) := by decide +kernel
theorem dX6_undoWork_20 : decode cX6_undoWork 20 = .ok (.aload_n 0, 1) := by decide +kernel
theorem dX6_undoWork_21 : decode cX6_undoWork 21 = .ok (.getfield 11, 3) := by decide +kernel
theorem dX6_undoWork_24 : decode cX6_undoWork 24 = .ok (.aload_n 0, 1) := by decide +kernel
theorem dX6_undoWork_25 : decode cX6_undoWork 25 = .ok (.getfield 23, 3) := by decide +kernel
theorem dX6_undoWork_28 : decode cX6_undoWork 28 = .ok (.bipush 83, 2) := by decide +kernel
theorem dX6_undoWork_30 : decode cX6_undoWork 30 = .ok (.imul, 1) := by decide +kernel
theorem dX6_undoWork_31 : decode cX6_undoWork 31 = .ok (.invokevirtual 34, 3) := by decide +kernel
theorem dX6_undoWork_34 : decode cX6_undoWork 34 = .ok (.iconst 1, 1) := by decide +kernel
theorem dX6_undoWork_35 : decode cX6_undoWork 35 = .ok (.ireturn, 1) := by decide +kernel
theorem dX6_takeImage_0 : decode cX6_takeImage 0 = .ok (.aload_n 0, 1) := by decide +kernel
theorem dX6_takeImage_1 : decode cX6_takeImage 1 = .ok (.getfield 27, 3) := by decide +kernel
theorem dX6_takeImage_4 : decode cX6_takeImage 4 = .ok (.ifCond .lt 11, 3) := by decide +kernel
theorem dX6_takeImage_7 : decode cX6_takeImage 7 = .ok (.aload_n 0, 1) := by decide +kernel
theorem dX6_takeImage_8 : decode cX6_takeImage 8 = .ok (.getfield 27, 3) := by decide +kernel
theorem dX6_takeImage_11 : decode cX6_takeImage 11 = .ok (.iconst 3, 1) := by decide +kernel
theorem dX6_takeImage_12 : decode cX6_takeImage 12 = .ok (.if_icmp .lt 5, 3) := by decide +kernel
theorem dX6_takeImage_15 : decode cX6_takeImage 15 = .ok (.iconst 0, 1) := by decide +kernel
theorem dX6_takeImage_16 : decode cX6_takeImage 16 = .ok (.ireturn, 1) := by decide +kernel
theorem dX6_takeImage_17 : decode cX6_takeImage 17 = .ok (.aload_n 0, 1) := by decide +kernel
theorem dX6_takeImage_18 : decode cX6_takeImage 18 = .ok (.getfield 27, 3) := by decide +kernel
theorem dX6_takeImage_21 : decode cX6_takeImage 21 = .ok (.sipush 1411, 3) := by decide +kernel
theorem dX6_takeImage_24 : decode cX6_takeImage 24 = .ok (.imul, 1) := by decide +kernel
theorem dX6_takeImage_25 : decode cX6_takeImage 25 = .ok (.istore_n 2, 1) := by decide +kernel
theorem dX6_takeImage_26 : decode cX6_takeImage 26 = .ok (.aload_n 0, 1) := by decide +kernel
theorem dX6_takeImage_27 : decode cX6_takeImage 27 = .ok (.getfield 11, 3) := by decide +kernel
theorem dX6_takeImage_30 : decode cX6_takeImage 30 = .ok (.iconst 0, 1) := by decide +kernel
theorem dX6_takeImage_31 : decode cX6_takeImage 31 = .ok (.aload_n 0, 1) := by decide +kernel
theorem dX6_takeImage_32 : decode cX6_takeImage 32 = .ok (.getfield 17, 3) := by decide +kernel
theorem dX6_takeImage_35 : decode cX6_takeImage 35 = .ok (.iload_n 2, 1) := by decide +kernel
theorem dX6_takeImage_36 : decode cX6_takeImage 36 = .ok (.sipush 1328, 3) := by decide +kernel
theorem dX6_takeImage_39 : decode cX6_takeImage 39 = .ok (.invokestatic 37, 3) := by decide +kernel
theorem dX6_takeImage_42 : decode cX6_takeImage 42 = .ok (.aload_n 1, 1) := by decide +kernel
theorem dX6_takeImage_43 : decode cX6_takeImage 43 = .ok (.aload_n 0, 1) := by decide +kernel
theorem dX6_takeImage_44 : decode cX6_takeImage 44 = .ok (.getfield 17, 3) := by decide +kernel
theorem dX6_takeImage_47 : decode cX6_takeImage 47 = .ok (.iload_n 2, 1) := by decide +kernel
theorem dX6_takeImage_48 : decode cX6_takeImage 48 = .ok (.sipush 1328, 3) := by decide +kernel
theorem dX6_takeImage_51 : decode cX6_takeImage 51 = .ok (.iadd, 1) := by decide +kernel
theorem dX6_takeImage_52 : decode cX6_takeImage 52 = .ok (.invokevirtual 30, 3) := by decide +kernel
theorem dX6_takeImage_55 : decode cX6_takeImage 55 = .ok (.aload_n 0, 1) := by decide +kernel
theorem dX6_takeImage_56 : decode cX6_takeImage 56 = .ok (.getfield 20, 3) := by decide +kernel
theorem dX6_takeImage_59 : decode cX6_takeImage 59 = .ok (.aload_n 0, 1) := by decide +kernel
theorem dX6_takeImage_60 : decode cX6_takeImage 60 = .ok (.getfield 27, 3) := by decide +kernel
theorem dX6_takeImage_63 : decode cX6_takeImage 63 = .ok (.aload_n 0, 1) := by decide +kernel
theorem dX6_takeImage_64 : decode cX6_takeImage 64 = .ok (.getfield 23, 3) := by decide +kernel
theorem dX6_takeImage_67 : decode cX6_takeImage 67 = .ok (.iastore, 1) := by decide +kernel
theorem dX6_takeImage_68 : decode cX6_takeImage 68 = .ok (.aload_n 0, 1) := by decide +kernel
theorem dX6_takeImage_69 : decode cX6_takeImage 69 = .ok (.dup, 1) := by decide +kernel
theorem dX6_takeImage_70 : decode cX6_takeImage 70 = .ok (.getfield 27, 3) := by decide +kernel
theorem dX6_takeImage_73 : decode cX6_takeImage 73 = .ok (.iconst 1, 1) := by decide +kernel
theorem dX6_takeImage_74 : decode cX6_takeImage 74 = .ok (.iadd, 1) := by decide +kernel
theorem dX6_takeImage_75 : decode cX6_takeImage 75 = .ok (.putfield 27, 3) := by decide +kernel
theorem dX6_takeImage_78 : decode cX6_takeImage 78 = .ok (.iconst 1, 1) := by decide +kernel
theorem dX6_takeImage_79 : decode cX6_takeImage 79 = .ok (.ireturn, 1) := by decide +kernel
theorem dX6_useImage_0 : decode cX6_useImage 0 = .ok (.aload_n 0, 1) := by decide +kernel
theorem dX6_useImage_1 : decode cX6_useImage 1 = .ok (.getfield 27, 3) := by decide +kernel
theorem dX6_useImage_4 : decode cX6_useImage 4 = .ok (.ifCond .le 11, 3) := by decide +kernel
theorem dX6_useImage_7 : decode cX6_useImage 7 = .ok (.aload_n 0, 1) := by decide +kernel
theorem dX6_useImage_8 : decode cX6_useImage 8 = .ok (.getfield 27, 3) := by decide +kernel
theorem dX6_useImage_11 : decode cX6_useImage 11 = .ok (.iconst 3, 1) := by decide +kernel
theorem dX6_useImage_12 : decode cX6_useImage 12 = .ok (.if_icmp .le 5, 3) := by decide +kernel
theorem dX6_useImage_15 : decode cX6_useImage 15 = .ok (.iconst 0, 1) := by decide +kernel
theorem dX6_useImage_16 : decode cX6_useImage 16 = .ok (.ireturn, 1) := by decide +kernel
theorem dX6_useImage_17 : decode cX6_useImage 17 = .ok (.aload_n 0, 1) := by decide +kernel
theorem dX6_useImage_18 : decode cX6_useImage 18 = .ok (.dup, 1) := by decide +kernel
theorem dX6_useImage_19 : decode cX6_useImage 19 = .ok (.getfield 27, 3) := by decide +kernel
theorem dX6_useImage_22 : decode cX6_useImage 22 = .ok (.iconst 1, 1) := by decide +kernel
theorem dX6_useImage_23 : decode cX6_useImage 23 = .ok (.isub, 1) := by decide +kernel
theorem dX6_useImage_24 : decode cX6_useImage 24 = .ok (.putfield 27, 3) := by decide +kernel
theorem dX6_useImage_27 : decode cX6_useImage 27 = .ok (.aload_n 0, 1) := by decide +kernel
theorem dX6_useImage_28 : decode cX6_useImage 28 = .ok (.getfield 27, 3) := by decide +kernel
theorem dX6_useImage_31 : decode cX6_useImage 31 = .ok (.sipush 1411, 3) := by decide +kernel
theorem dX6_useImage_34 : decode cX6_useImage 34 = .ok (.imul, 1) := by decide +kernel
theorem dX6_useImage_35 : decode cX6_useImage 35 = .ok (.istore_n 2, 1) := by decide +kernel
theorem dX6_useImage_36 : decode cX6_useImage 36 = .ok (.aload_n 0, 1) := by decide +kernel
theorem dX6_useImage_37 : decode cX6_useImage 37 = .ok (.getfield 17, 3) := by decide +kernel
theorem dX6_useImage_40 : decode cX6_useImage 40 = .ok (.iload_n 2, 1) := by decide +kernel
theorem dX6_useImage_41 : decode cX6_useImage 41 = .ok (.aload_n 0, 1) := by decide +kernel
theorem dX6_useImage_42 : decode cX6_useImage 42 = .ok (.getfield 11, 3) := by decide +kernel
theorem dX6_useImage_45 : decode cX6_useImage 45 = .ok (.iconst 0, 1) := by decide +kernel
theorem dX6_useImage_46 : decode cX6_useImage 46 = .ok (.sipush 1328, 3) := by decide +kernel
theorem dX6_useImage_49 : decode cX6_useImage 49 = .ok (.invokestatic 37, 3) := by decide +kernel
theorem dX6_useImage_52 : decode cX6_useImage 52 = .ok (.aload_n 1, 1) := by decide +kernel
theorem dX6_useImage_53 : decode cX6_useImage 53 = .ok (.aload_n 0, 1) := by decide +kernel
theorem dX6_useImage_54 : decode cX6_useImage 54 = .ok (.getfield 17, 3) := by decide +kernel
theorem dX6_useImage_57 : decode cX6_useImage 57 = .ok (.iload_n 2, 1) := by decide +kernel
theorem dX6_useImage_58 : decode cX6_useImage 58 = .ok (.sipush 1328, 3) := by decide +kernel
theorem dX6_useImage_61 : decode cX6_useImage 61 = .ok (.iadd, 1) := by decide +kernel
theorem dX6_useImage_62 : decode cX6_useImage 62 = .ok (.invokevirtual 34, 3) := by decide +kernel
theorem dX6_useImage_65 : decode cX6_useImage 65 = .ok (.aload_n 0, 1) := by decide +kernel
theorem dX6_useImage_66 : decode cX6_useImage 66 = .ok (.aload_n 0, 1) := by decide +kernel
theorem dX6_useImage_67 : decode cX6_useImage 67 = .ok (.getfield 20, 3) := by decide +kernel
theorem dX6_useImage_70 : decode cX6_useImage 70 = .ok (.aload_n 0, 1) := by decide +kernel
theorem dX6_useImage_71 : decode cX6_useImage 71 = .ok (.getfield 27, 3) := by decide +kernel
theorem dX6_useImage_74 : decode cX6_useImage 74 = .ok (.iaload, 1) := by decide +kernel
theorem dX6_useImage_75 : decode cX6_useImage 75 = .ok (.putfield 23, 3) := by decide +kernel
theorem dX6_useImage_78 : decode cX6_useImage 78 = .ok (.iconst 1, 1) := by decide +kernel
theorem dX6_useImage_79 : decode cX6_useImage 79 = .ok (.ireturn, 1) := by decide +kernel
theorem dX7_init_0 : decode cX7_init 0 = .ok (.aload_n 0, 1) := by decide +kernel
theorem dX7_init_1 : decode cX7_init 1 = .ok (.invokespecial 3, 3) := by decide +kernel
theorem dX7_init_4 : decode cX7_init 4 = .ok (.aload_n 0, 1) := by decide +kernel
theorem dX7_init_5 : decode cX7_init 5 = .ok (.sipush 150, 3) := by decide +kernel
theorem dX7_init_8 : decode cX7_init 8 = .ok (.newarray .int, 2) := by decide +kernel
theorem dX7_init_10 : decode cX7_init 10 = .ok (.putfield 9, 3) := by decide +kernel
theorem dX7_init_13 : decode cX7_init 13 = .ok (.aload_n 0, 1) := by decide +kernel
theorem dX7_init_14 : decode cX7_init 14 = .ok (.sipush 150, 3) := by decide +kernel
theorem dX7_init_17 : decode cX7_init 17 = .ok (.newarray .int, 2) := by decide +kernel
theorem dX7_init_19 : decode cX7_init 19 = .ok (.putfield 15, 3) := by decide +kernel
theorem dX7_init_22 : decode cX7_init 22 = .ok (.aload_n 0, 1) := by decide +kernel
theorem dX7_init_23 : decode cX7_init 23 = .ok (.sipush 150, 3) := by decide +kernel
theorem dX7_init_26 : decode cX7_init 26 = .ok (.newarray .int, 2) := by decide +kernel
theorem dX7_init_28 : decode cX7_init 28 = .ok (.putfield 18, 3) := by decide +kernel
theorem dX7_init_31 : decode cX7_init 31 = .ok (.aload_n 0, 1) := by decide +kernel
theorem dX7_init_32 : decode cX7_init 32 = .ok (.sipush 150, 3) := by decide +kernel
theorem dX7_init_35 : decode cX7_init 35 = .ok (.newarray .int, 2) := by decide +kernel
theorem dX7_init_37 : decode cX7_init 37 = .ok (.putfield 21, 3) := by decide +kernel
theorem dX7_init_40 : decode cX7_init 40 = .ok (.aload_n 0, 1) := by decide +kernel
theorem dX7_init_41 : decode cX7_init 41 = .ok (.iconst 0, 1) := by decide +kernel
theorem dX7_init_42 : decode cX7_init 42 = .ok (.putfield 24, 3) := by decide +kernel
theorem dX7_init_45 : decode cX7_init 45 = .ok (.aload_n 0, 1) := by decide +kernel
theorem dX7_init_46 : decode cX7_init 46 = .ok (.iconst 0, 1) := by decide +kernel
theorem dX7_init_47 : decode cX7_init 47 = .ok (.putfield 28, 3) := by decide +kernel
theorem dX7_init_50 : decode cX7_init 50 = .ok (.aload_n 0, 1) := by decide +kernel
theorem dX7_init_51 : decode cX7_init 51 = .ok (.iconst 0, 1) := by decide +kernel
theorem dX7_init_52 : decode cX7_init 52 = .ok (.putfield 31, 3) := by decide +kernel
theorem dX7_init_55 : decode cX7_init 55 = .ok (.aload_n 0, 1) := by decide +kernel
theorem dX7_init_56 : decode cX7_init 56 = .ok (.iconst 0, 1) := by decide +kernel
theorem dX7_init_57 : decode cX7_init 57 = .ok (.putfield 34, 3) := by decide +kernel
theorem dX7_init_60 : decode cX7_init 60 = .ok (.return_, 1) := by decide +kernel
theorem dX7_read_0 : decode cX7_read 0 = .ok (.aload_n 0, 1) := by decide +kernel
theorem dX7_read_1 : decode cX7_read 1 = .ok (.iconst 0, 1) := by decide +kernel
theorem dX7_read_2 : decode cX7_read 2 = .ok (.putfield 24, 3) := by decide +kernel
theorem dX7_read_5 : decode cX7_read 5 = .ok (.aload_n 0, 1) := by decide +kernel
theorem dX7_read_6 : decode cX7_read 6 = .ok (.iconst 0, 1) := by decide +kernel
theorem dX7_read_7 : decode cX7_read 7 = .ok (.putfield 28, 3) := by decide +kernel
theorem dX7_read_10 : decode cX7_read 10 = .ok (.aload_n 0, 1) := by decide +kernel
theorem dX7_read_11 : decode cX7_read 11 = .ok (.iconst 0, 1) := by decide +kernel
theorem dX7_read_12 : decode cX7_read 12 = .ok (.putfield 31, 3) := by decide +kernel
theorem dX7_read_15 : decode cX7_read 15 = .ok (.aload_n 0, 1) := by decide +kernel
theorem dX7_read_16 : decode cX7_read 16 = .ok (.iconst 0, 1) := by decide +kernel
theorem dX7_read_17 : decode cX7_read 17 = .ok (.putfield 34, 3) := by decide +kernel
theorem dX7_read_20 : decode cX7_read 20 = .ok (.aload_n 0, 1) := by decide +kernel
theorem dX7_read_21 : decode cX7_read 21 = .ok (.aload_n 1, 1) := by decide +kernel
theorem dX7_read_22 : decode cX7_read 22 = .ok (.aload_n 2, 1) := by decide +kernel
theorem dX7_read_23 : decode cX7_read 23 = .ok (.iconst 0, 1) := by decide +kernel
theorem dX7_read_24 : decode cX7_read 24 = .ok (.invokevirtual 37, 3) := by decide +kernel
theorem dX7_read_27 : decode cX7_read 27 = .ok (.ireturn, 1) := by decide +kernel
theorem dX7_readSteps_0 : decode cX7_readSteps 0 = .ok (.iconst 0, 1) := by decide +kernel
theorem dX7_readSteps_1 : decode cX7_readSteps 1 = .ok (.istore 4, 2) := by decide +kernel
theorem dX7_readSteps_3 : decode cX7_readSteps 3 = .ok (.iload 4, 2) := by decide +kernel
theorem dX7_readSteps_5 : decode cX7_readSteps 5 = .ok (.aload_n 1, 1) := by decide +kernel
theorem dX7_readSteps_6 : decode cX7_readSteps 6 = .ok (.getfield 41, 3) := by decide +kernel
theorem dX7_readSteps_9 : decode cX7_readSteps 9 = .ok (.if_icmp .gt 55, 3) := by decide +kernel
theorem dX7_readSteps_12 : decode cX7_readSteps 12 = .ok (.iload_n 3, 1) := by decide +kernel
theorem dX7_readSteps_13 : decode cX7_readSteps 13 = .ok (.ifCond .ne 13, 3) := by decide +kernel
theorem dX7_readSteps_16 : decode cX7_readSteps 16 = .ok (.aload_n 1, 1) := by decide +kernel
theorem dX7_readSteps_17 : decode cX7_readSteps 17 = .ok (.invokevirtual 46, 3) := by decide +kernel
theorem dX7_readSteps_20 : decode cX7_readSteps 20 = .ok (.ifCond .eq 17, 3) := by decide +kernel
theorem dX7_readSteps_23 : decode cX7_readSteps 23 = .ok (.goto 12, 3) := by decide +kernel
theorem dX7_readSteps_26 : decode cX7_readSteps 26 = .ok (.aload_n 1, 1) := by decide +kernel
theorem dX7_readSteps_27 : decode cX7_readSteps 27 = .ok (.bipush 93, 2) := by decide +kernel
theorem dX7_readSteps_29 : decode cX7_readSteps 29 = .ok (.invokevirtual 50, 3) := by decide +kernel
theorem dX7_readSteps_32 : decode cX7_readSteps 32 = .ok (.ifCond .eq 5, 3) := by decide +kernel
theorem dX7_readSteps_35 : decode cX7_readSteps 35 = .ok (.iconst 1, 1) := by decide +kernel
theorem dX7_readSteps_36 : decode cX7_readSteps 36 = .ok (.ireturn, 1) := by decide +kernel
theorem dX7_readSteps_37 : decode cX7_readSteps 37 = .ok (.aload_n 0, 1) := by decide +kernel
theorem dX7_readSteps_38 : decode cX7_readSteps 38 = .ok (.aload_n 1, 1) := by decide +kernel
theorem dX7_readSteps_39 : decode cX7_readSteps 39 = .ok (.aload_n 2, 1) := by decide +kernel
theorem dX7_readSteps_40 : decode cX7_readSteps 40 = .ok (.iload_n 3, 1) := by decide +kernel
theorem dX7_readSteps_41 : decode cX7_readSteps 41 = .ok (.invokevirtual 54, 3) := by decide +kernel
theorem dX7_readSteps_44 : decode cX7_readSteps 44 = .ok (.ifCond .eq 12, 3) := by decide +kernel
theorem dX7_readSteps_47 : decode cX7_readSteps 47 = .ok (.aload_n 1, 1) := by decide +kernel
theorem dX7_readSteps_48 : decode cX7_readSteps 48 = .ok (.bipush 59, 2) := by decide +kernel
theorem dX7_readSteps_50 : decode cX7_readSteps 50 = .ok (.invokevirtual 57, 3) := by decide +kernel
theorem dX7_readSteps_53 : decode cX7_readSteps 53 = .ok (.ifCond .ne 5, 3) := by decide +kernel
theorem dX7_readSteps_56 : decode cX7_readSteps 56 = .ok (.iconst 0, 1) := by decide +kernel
theorem dX7_readSteps_57 : decode cX7_readSteps 57 = .ok (.ireturn, 1) := by decide +kernel
theorem dX7_readSteps_58 : decode cX7_readSteps 58 = .ok (.iinc 4 1, 3) := by decide +kernel
theorem dX7_readSteps_61 : decode cX7_readSteps 61 = .ok (.goto (-58), 3) := by decide +kernel
theorem dX7_readSteps_64 : decode cX7_readSteps 64 = .ok (.iconst 1, 1) := by decide +kernel
theorem dX7_readSteps_65 : decode cX7_readSteps 65 = .ok (.ireturn, 1) := by decide +kernel
theorem dX7_readStep_0 : decode cX7_readStep 0 = .ok (.aload_n 1, 1) := by decide +kernel
theorem dX7_readStep_1 : decode cX7_readStep 1 = .ok (.ldc 60, 2) := by decide +kernel
theorem dX7_readStep_3 : decode cX7_readStep 3 = .ok (.invokevirtual 62, 3) := by decide +kernel
theorem dX7_readStep_6 : decode cX7_readStep 6 = .ok (.ifCond .eq 11, 3) := by decide +kernel
theorem dX7_readStep_9 : decode cX7_readStep 9 = .ok (.aload_n 0, 1) := by decide +kernel
theorem dX7_readStep_10 : decode cX7_readStep 10 = .ok (.aload_n 1, 1) := by decide +kernel
theorem dX7_readStep_11 : decode cX7_readStep 11 = .ok (.aload_n 2, 1) := by decide +kernel
theorem dX7_readStep_12 : decode cX7_readStep 12 = .ok (.iconst 0, 1) := by decide +kernel
theorem dX7_readStep_13 : decode cX7_readStep 13 = .ok (.invokevirtual 66, 3) := by decide +kernel
theorem dX7_readStep_16 : decode cX7_readStep 16 = .ok (.ireturn, 1) := by decide +kernel
theorem dX7_readStep_17 : decode cX7_readStep 17 = .ok (.aload_n 1, 1) := by decide +kernel
theorem dX7_readStep_18 : decode cX7_readStep 18 = .ok (.ldc 69, 2) := by decide +kernel
theorem dX7_readStep_20 : decode cX7_readStep 20 = .ok (.invokevirtual 62, 3) := by decide +kernel
theorem dX7_readStep_23 : decode cX7_readStep 23 = .ok (.ifCond .eq 10, 3) := by decide +kernel
theorem dX7_readStep_26 : decode cX7_readStep 26 = .ok (.aload_n 0, 1) := by decide +kernel
theorem dX7_readStep_27 : decode cX7_readStep 27 = .ok (.aload_n 1, 1) := by decide +kernel
theorem dX7_readStep_28 : decode cX7_readStep 28 = .ok (.aload_n 2, 1) := by decide +kernel
theorem dX7_readStep_29 : decode cX7_readStep 29 = .ok (.invokevirtual 71, 3) := by decide +kernel
theorem dX7_readStep_32 : decode cX7_readStep 32 = .ok (.ireturn, 1) := by decide +kernel
theorem dX7_readStep_33 : decode cX7_readStep 33 = .ok (.aload_n 1, 1) := by decide +kernel
theorem dX7_readStep_34 : decode cX7_readStep 34 = .ok (.ldc 75, 2) := by decide +kernel
theorem dX7_readStep_36 : decode cX7_readStep 36 = .ok (.invokevirtual 62, 3) := by decide +kernel
theorem dX7_readStep_39 : decode cX7_readStep 39 = .ok (.ifCond .eq 11, 3) := by decide +kernel
theorem dX7_readStep_42 : decode cX7_readStep 42 = .ok (.aload_n 0, 1) := by decide +kernel
theorem dX7_readStep_43 : decode cX7_readStep 43 = .ok (.aload_n 1, 1) := by decide +kernel
theorem dX7_readStep_44 : decode cX7_readStep 44 = .ok (.aload_n 2, 1) := by decide +kernel
theorem dX7_readStep_45 : decode cX7_readStep 45 = .ok (.iconst 2, 1) := by decide +kernel
theorem dX7_readStep_46 : decode cX7_readStep 46 = .ok (.invokevirtual 66, 3) := by decide +kernel
theorem dX7_readStep_49 : decode cX7_readStep 49 = .ok (.ireturn, 1) := by decide +kernel
theorem dX7_readStep_50 : decode cX7_readStep 50 = .ok (.aload_n 1, 1) := by decide +kernel
theorem dX7_readStep_51 : decode cX7_readStep 51 = .ok (.ldc 77, 2) := by decide +kernel
theorem dX7_readStep_53 : decode cX7_readStep 53 = .ok (.invokevirtual 62, 3) := by decide +kernel
theorem dX7_readStep_56 : decode cX7_readStep 56 = .ok (.ifCond .eq 11, 3) := by decide +kernel
theorem dX7_readStep_59 : decode cX7_readStep 59 = .ok (.aload_n 0, 1) := by decide +kernel
theorem dX7_readStep_60 : decode cX7_readStep 60 = .ok (.aload_n 1, 1) := by decide +kernel
theorem dX7_readStep_61 : decode cX7_readStep 61 = .ok (.aload_n 2, 1) := by decide +kernel
theorem dX7_readStep_62 : decode cX7_readStep 62 = .ok (.iconst 3, 1) := by decide +kernel
theorem dX7_readStep_63 : decode cX7_readStep 63 = .ok (.invokevirtual 66, 3) := by decide +kernel
theorem dX7_readStep_66 : decode cX7_readStep 66 = .ok (.ireturn, 1) := by decide +kernel
theorem dX7_readStep_67 : decode cX7_readStep 67 = .ok (.aload_n 1, 1) := by decide +kernel
theorem dX7_readStep_68 : decode cX7_readStep 68 = .ok (.ldc 79, 2) := by decide +kernel
theorem dX7_readStep_70 : decode cX7_readStep 70 = .ok (.invokevirtual 62, 3) := by decide +kernel
theorem dX7_readStep_73 : decode cX7_readStep 73 = .ok (.ifCond .eq 10, 3) := by decide +kernel
theorem dX7_readStep_76 : decode cX7_readStep 76 = .ok (.aload_n 0, 1) := by decide +kernel
theorem dX7_readStep_77 : decode cX7_readStep 77 = .ok (.aload_n 1, 1) := by decide +kernel
theorem dX7_readStep_78 : decode cX7_readStep 78 = .ok (.aload_n 2, 1) := by decide +kernel
theorem dX7_readStep_79 : decode cX7_readStep 79 = .ok (.invokevirtual 81, 3) := by decide +kernel
theorem dX7_readStep_82 : decode cX7_readStep 82 = .ok (.ireturn, 1) := by decide +kernel
theorem dX7_readStep_83 : decode cX7_readStep 83 = .ok (.aload_n 1, 1) := by decide +kernel
theorem dX7_readStep_84 : decode cX7_readStep 84 = .ok (.ldc 84, 2) := by decide +kernel
theorem dX7_readStep_86 : decode cX7_readStep 86 = .ok (.invokevirtual 62, 3) := by decide +kernel
theorem dX7_readStep_89 : decode cX7_readStep 89 = .ok (.ifCond .eq 11, 3) := by decide +kernel
theorem dX7_readStep_92 : decode cX7_readStep 92 = .ok (.aload_n 0, 1) := by decide +kernel
theorem dX7_readStep_93 : decode cX7_readStep 93 = .ok (.iconst 5, 1) := by decide +kernel
theorem dX7_readStep_94 : decode cX7_readStep 94 = .ok (.iconst 0, 1) := by decide +kernel
theorem dX7_readStep_95 : decode cX7_readStep 95 = .ok (.iconst 0, 1) := by decide +kernel
theorem dX7_readStep_96 : decode cX7_readStep 96 = .ok (.invokevirtual 86, 3) := by decide +kernel
theorem dX7_readStep_99 : decode cX7_readStep 99 = .ok (.ireturn, 1) := by decide +kernel
theorem dX7_readStep_100 : decode cX7_readStep 100 = .ok (.aload_n 1, 1) := by decide +kernel
theorem dX7_readStep_101 : decode cX7_readStep 101 = .ok (.ldc 90, 2) := by decide +kernel
theorem dX7_readStep_103 : decode cX7_readStep 103 = .ok (.invokevirtual 62, 3) := by decide +kernel
theorem dX7_readStep_106 : decode cX7_readStep 106 = .ok (.ifCond .eq 11, 3) := by decide +kernel
theorem dX7_readStep_109 : decode cX7_readStep 109 = .ok (.aload_n 0, 1) := by decide +kernel
theorem dX7_readStep_110 : decode cX7_readStep 110 = .ok (.aload_n 1, 1) := by decide +kernel
theorem dX7_readStep_111 : decode cX7_readStep 111 = .ok (.aload_n 2, 1) := by decide +kernel
theorem dX7_readStep_112 : decode cX7_readStep 112 = .ok (.iload_n 3, 1) := by decide +kernel
theorem dX7_readStep_113 : decode cX7_readStep 113 = .ok (.invokevirtual 92, 3) := by decide +kernel
theorem dX7_readStep_116 : decode cX7_readStep 116 = .ok (.ireturn, 1) := by decide +kernel
theorem dX7_readStep_117 : decode cX7_readStep 117 = .ok (.aload_n 1, 1) := by decide +kernel
theorem dX7_readStep_118 : decode cX7_readStep 118 = .ok (.iconst 1, 1) := by decide +kernel
theorem dX7_readStep_119 : decode cX7_readStep 119 = .ok (.invokevirtual 95, 3) := by decide +kernel
theorem dX7_readStep_122 : decode cX7_readStep 122 = .ok (.ireturn, 1) := by decide +kernel
theorem dX7_readBeast_0 : decode cX7_readBeast 0 = .ok (.aload_n 1, 1) := by decide +kernel
theorem dX7_readBeast_1 : decode cX7_readBeast 1 = .ok (.iconst 0, 1) := by decide +kernel
theorem dX7_readBeast_2 : decode cX7_readBeast 2 = .ok (.aload_n 2, 1) := by decide +kernel
theorem dX7_readBeast_3 : decode cX7_readBeast 3 = .ok (.getfield 99, 3) := by decide +kernel
theorem dX7_readBeast_6 : decode cX7_readBeast 6 = .ok (.iconst 1, 1) := by decide +kernel
theorem dX7_readBeast_7 : decode cX7_readBeast 7 = .ok (.isub, 1) := by decide +kernel
theorem dX7_readBeast_8 : decode cX7_readBeast 8 = .ok (.invokevirtual 104, 3) := by decide +kernel
theorem dX7_readBeast_11 : decode cX7_readBeast 11 = .ok (.istore 4, 2) := by decide +kernel
theorem dX7_readBeast_13 : decode cX7_readBeast 13 = .ok (.iload 4, 2) := by decide +kernel
theorem dX7_readBeast_15 : decode cX7_readBeast 15 = .ok (.iconst (-1), 1) := by decide +kernel
theorem dX7_readBeast_16 : decode cX7_readBeast 16 = .ok (.if_icmp .eq 18, 3) := by decide +kernel
theorem dX7_readBeast_19 : decode cX7_readBeast 19 = .ok (.aload_n 0, 1) := by decide +kernel
theorem dX7_readBeast_20 : decode cX7_readBeast 20 = .ok (.iload_n 3, 1) := by decide +kernel
theorem dX7_readBeast_21 : decode cX7_readBeast 21 = .ok (.iload 4, 2) := by decide +kernel
theorem dX7_readBeast_23 : decode cX7_readBeast 23 = .ok (.iconst 0, 1) := by decide +kernel
theorem dX7_readBeast_24 : decode cX7_readBeast 24 = .ok (.invokevirtual 86, 3) := by decide +kernel
theorem dX7_readBeast_27 : decode cX7_readBeast 27 = .ok (.ifCond .eq 7, 3) := by decide +kernel
theorem dX7_readBeast_30 : decode cX7_readBeast 30 = .ok (.iconst 1, 1) := by decide +kernel
theorem dX7_readBeast_31 : decode cX7_readBeast 31 = .ok (.goto 4, 3) := by decide +kernel
theorem dX7_readBeast_34 : decode cX7_readBeast 34 = .ok (.iconst 0, 1) := by decide +kernel
theorem dX7_readBeast_35 : decode cX7_readBeast 35 = .ok (.ireturn, 1) := by decide +kernel
theorem dX7_readDrive_0 : decode cX7_readDrive 0 = .ok (.aload_n 1, 1) := by decide +kernel
theorem dX7_readDrive_1 : decode cX7_readDrive 1 = .ok (.iconst 0, 1) := by decide +kernel
theorem dX7_readDrive_2 : decode cX7_readDrive 2 = .ok (.aload_n 2, 1) := by decide +kernel
theorem dX7_readDrive_3 : decode cX7_readDrive 3 = .ok (.getfield 99, 3) := by decide +kernel
theorem dX7_readDrive_6 : decode cX7_readDrive 6 = .ok (.iconst 1, 1) := by decide +kernel
theorem dX7_readDrive_7 : decode cX7_readDrive 7 = .ok (.isub, 1) := by decide +kernel
theorem dX7_readDrive_8 : decode cX7_readDrive 8 = .ok (.invokevirtual 104, 3) := by decide +kernel
theorem dX7_readDrive_11 : decode cX7_readDrive 11 = .ok (.istore_n 3, 1) := by decide +kernel
theorem dX7_readDrive_12 : decode cX7_readDrive 12 = .ok (.iload_n 3, 1) := by decide +kernel
theorem dX7_readDrive_13 : decode cX7_readDrive 13 = .ok (.iconst (-1), 1) := by decide +kernel
theorem dX7_readDrive_14 : decode cX7_readDrive 14 = .ok (.if_icmp .ne 5, 3) := by decide +kernel
theorem dX7_readDrive_17 : decode cX7_readDrive 17 = .ok (.iconst 0, 1) := by decide +kernel
theorem dX7_readDrive_18 : decode cX7_readDrive 18 = .ok (.ireturn, 1) := by decide +kernel
theorem dX7_readDrive_19 : decode cX7_readDrive 19 = .ok (.aload_n 1, 1) := by decide +kernel
theorem dX7_readDrive_20 : decode cX7_readDrive 20 = .ok (.iconst 0, 1) := by decide +kernel
theorem dX7_readDrive_21 : decode cX7_readDrive 21 = .ok (.aload_n 2, 1) := by decide +kernel
theorem dX7_readDrive_22 : decode cX7_readDrive 22 = .ok (.getfield 108, 3) := by decide +kernel
theorem dX7_readDrive_25 : decode cX7_readDrive 25 = .ok (.iconst 1, 1) := by decide +kernel
theorem dX7_readDrive_26 : decode cX7_readDrive 26 = .ok (.isub, 1) := by decide +kernel
theorem dX7_readDrive_27 : decode cX7_readDrive 27 = .ok (.invokevirtual 104, 3) := by decide +kernel
theorem dX7_readDrive_30 : decode cX7_readDrive 30 = .ok (.istore 4, 2) := by decide +kernel
theorem dX7_readDrive_32 : decode cX7_readDrive 32 = .ok (.iload 4, 2) := by decide +kernel
theorem dX7_readDrive_34 : decode cX7_readDrive 34 = .ok (.iconst (-1), 1) := by decide +kernel
theorem dX7_readDrive_35 : decode cX7_readDrive 35 = .ok (.if_icmp .eq 18, 3) := by decide +kernel
theorem dX7_readDrive_38 : decode cX7_readDrive 38 = .ok (.aload_n 0, 1) := by decide +kernel
theorem dX7_readDrive_39 : decode cX7_readDrive 39 = .ok (.iconst 1, 1) := by decide +kernel
theorem dX7_readDrive_40 : decode cX7_readDrive 40 = .ok (.iload_n 3, 1) := by decide +kernel
theorem dX7_readDrive_41 : decode cX7_readDrive 41 = .ok (.iload 4, 2) := by decide +kernel
theorem dX7_readDrive_43 : decode cX7_readDrive 43 = .ok (.invokevirtual 86, 3) := by decide +kernel
theorem dX7_readDrive_46 : decode cX7_readDrive 46 = .ok (.ifCond .eq 7, 3) := by decide +kernel
theorem dX7_readDrive_49 : decode cX7_readDrive 49 = .ok (.iconst 1, 1) := by decide +kernel
theorem dX7_readDrive_50 : decode cX7_readDrive 50 = .ok (.goto 4, 3) := by decide +kernel
theorem dX7_readDrive_53 : decode cX7_readDrive 53 = .ok (.iconst 0, 1) := by decide +kernel
theorem dX7_readDrive_54 : decode cX7_readDrive 54 = .ok (.ireturn, 1) := by decide +kernel
theorem dX7_readHay_0 : decode cX7_readHay 0 = .ok (.aload_n 1, 1) := by decide +kernel
theorem dX7_readHay_1 : decode cX7_readHay 1 = .ok (.iconst 0, 1) := by decide +kernel
theorem dX7_readHay_2 : decode cX7_readHay 2 = .ok (.aload_n 2, 1) := by decide +kernel
theorem dX7_readHay_3 : decode cX7_readHay 3 = .ok (.getfield 108, 3) := by decide +kernel
theorem dX7_readHay_6 : decode cX7_readHay 6 = .ok (.iconst 1, 1) := by decide +kernel
theorem dX7_readHay_7 : decode cX7_readHay 7 = .ok (.isub, 1) := by decide +kernel
theorem dX7_readHay_8 : decode cX7_readHay 8 = .ok (.invokevirtual 104, 3) := by decide +kernel
theorem dX7_readHay_11 : decode cX7_readHay 11 = .ok (.istore_n 3, 1) := by decide +kernel
theorem dX7_readHay_12 : decode cX7_readHay 12 = .ok (.iload_n 3, 1) := by decide +kernel
