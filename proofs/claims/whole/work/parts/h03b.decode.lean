theorem dX7_readHay_13 : decode cX7_readHay 13 = .ok (.iconst (-1), 1) := by decide +kernel
theorem dX7_readHay_14 : decode cX7_readHay 14 = .ok (.if_icmp .ne 5, 3) := by decide +kernel
theorem dX7_readHay_17 : decode cX7_readHay 17 = .ok (.iconst 0, 1) := by decide +kernel
theorem dX7_readHay_18 : decode cX7_readHay 18 = .ok (.ireturn, 1) := by decide +kernel
theorem dX7_readHay_19 : decode cX7_readHay 19 = .ok (.aload_n 1, 1) := by decide +kernel
theorem dX7_readHay_20 : decode cX7_readHay 20 = .ok (.iconst 1, 1) := by decide +kernel
theorem dX7_readHay_21 : decode cX7_readHay 21 = .ok (.bipush 60, 2) := by decide +kernel
theorem dX7_readHay_23 : decode cX7_readHay 23 = .ok (.invokevirtual 104, 3) := by decide +kernel
theorem dX7_readHay_26 : decode cX7_readHay 26 = .ok (.istore 4, 2) := by decide +kernel
theorem dX7_readHay_28 : decode cX7_readHay 28 = .ok (.iload 4, 2) := by decide +kernel
theorem dX7_readHay_30 : decode cX7_readHay 30 = .ok (.iconst (-1), 1) := by decide +kernel
theorem dX7_readHay_31 : decode cX7_readHay 31 = .ok (.if_icmp .eq 18, 3) := by decide +kernel
theorem dX7_readHay_34 : decode cX7_readHay 34 = .ok (.aload_n 0, 1) := by decide +kernel
theorem dX7_readHay_35 : decode cX7_readHay 35 = .ok (.iconst 4, 1) := by decide +kernel
theorem dX7_readHay_36 : decode cX7_readHay 36 = .ok (.iload_n 3, 1) := by decide +kernel
theorem dX7_readHay_37 : decode cX7_readHay 37 = .ok (.iload 4, 2) := by decide +kernel
theorem dX7_readHay_39 : decode cX7_readHay 39 = .ok (.invokevirtual 86, 3) := by decide +kernel
theorem dX7_readHay_42 : decode cX7_readHay 42 = .ok (.ifCond .eq 7, 3) := by decide +kernel
theorem dX7_readHay_45 : decode cX7_readHay 45 = .ok (.iconst 1, 1) := by decide +kernel
theorem dX7_readHay_46 : decode cX7_readHay 46 = .ok (.goto 4, 3) := by decide +kernel
theorem dX7_readHay_49 : decode cX7_readHay 49 = .ok (.iconst 0, 1) := by decide +kernel
theorem dX7_readHay_50 : decode cX7_readHay 50 = .ok (.ireturn, 1) := by decide +kernel
theorem dX7_readAgain_0 : decode cX7_readAgain 0 = .ok (.iload_n 3, 1) := by decide +kernel
theorem dX7_readAgain_1 : decode cX7_readAgain 1 = .ok (.bipush 6, 2) := by decide +kernel
theorem dX7_readAgain_3 : decode cX7_readAgain 3 = .ok (.if_icmp .lt 9, 3) := by decide +kernel
theorem dX7_readAgain_6 : decode cX7_readAgain 6 = .ok (.aload_n 1, 1) := by decide +kernel
theorem dX7_readAgain_7 : decode cX7_readAgain 7 = .ok (.iconst 3, 1) := by decide +kernel
theorem dX7_readAgain_8 : decode cX7_readAgain 8 = .ok (.invokevirtual 95, 3) := by decide +kernel
theorem dX7_readAgain_11 : decode cX7_readAgain 11 = .ok (.ireturn, 1) := by decide +kernel
theorem dX7_readAgain_12 : decode cX7_readAgain 12 = .ok (.aload_n 1, 1) := by decide +kernel
theorem dX7_readAgain_13 : decode cX7_readAgain 13 = .ok (.iconst 0, 1) := by decide +kernel
theorem dX7_readAgain_14 : decode cX7_readAgain 14 = .ok (.bipush 60, 2) := by decide +kernel
theorem dX7_readAgain_16 : decode cX7_readAgain 16 = .ok (.invokevirtual 104, 3) := by decide +kernel
theorem dX7_readAgain_19 : decode cX7_readAgain 19 = .ok (.istore 4, 2) := by decide +kernel
theorem dX7_readAgain_21 : decode cX7_readAgain 21 = .ok (.iload 4, 2) := by decide +kernel
theorem dX7_readAgain_23 : decode cX7_readAgain 23 = .ok (.iconst (-1), 1) := by decide +kernel
theorem dX7_readAgain_24 : decode cX7_readAgain 24 = .ok (.if_icmp .eq 12, 3) := by decide +kernel
theorem dX7_readAgain_27 : decode cX7_readAgain 27 = .ok (.aload_n 1, 1) := by decide +kernel
theorem dX7_readAgain_28 : decode cX7_readAgain 28 = .ok (.bipush 91, 2) := by decide +kernel
theorem dX7_readAgain_30 : decode cX7_readAgain 30 = .ok (.invokevirtual 57, 3) := by decide +kernel
theorem dX7_readAgain_33 : decode cX7_readAgain 33 = .ok (.ifCond .ne 5, 3) := by decide +kernel
theorem dX7_readAgain_36 : decode cX7_readAgain 36 = .ok (.iconst 0, 1) := by decide +kernel
theorem dX7_readAgain_37 : decode cX7_readAgain 37 = .ok (.ireturn, 1) := by decide +kernel
theorem dX7_readAgain_38 : decode cX7_readAgain 38 = .ok (.aload_n 0, 1) := by decide +kernel
theorem dX7_readAgain_39 : decode cX7_readAgain 39 = .ok (.getfield 24, 3) := by decide +kernel
theorem dX7_readAgain_42 : decode cX7_readAgain 42 = .ok (.istore 5, 2) := by decide +kernel
theorem dX7_readAgain_44 : decode cX7_readAgain 44 = .ok (.aload_n 0, 1) := by decide +kernel
theorem dX7_readAgain_45 : decode cX7_readAgain 45 = .ok (.bipush 6, 2) := by decide +kernel
theorem dX7_readAgain_47 : decode cX7_readAgain 47 = .ok (.iload 4, 2) := by decide +kernel
theorem dX7_readAgain_49 : decode cX7_readAgain 49 = .ok (.iconst 0, 1) := by decide +kernel
theorem dX7_readAgain_50 : decode cX7_readAgain 50 = .ok (.invokevirtual 86, 3) := by decide +kernel
theorem dX7_readAgain_53 : decode cX7_readAgain 53 = .ok (.pop, 1) := by decide +kernel
theorem dX7_readAgain_54 : decode cX7_readAgain 54 = .ok (.aload_n 0, 1) := by decide +kernel
theorem dX7_readAgain_55 : decode cX7_readAgain 55 = .ok (.aload_n 1, 1) := by decide +kernel
theorem dX7_readAgain_56 : decode cX7_readAgain 56 = .ok (.aload_n 2, 1) := by decide +kernel
theorem dX7_readAgain_57 : decode cX7_readAgain 57 = .ok (.iload_n 3, 1) := by decide +kernel
theorem dX7_readAgain_58 : decode cX7_readAgain 58 = .ok (.iconst 1, 1) := by decide +kernel
theorem dX7_readAgain_59 : decode cX7_readAgain 59 = .ok (.iadd, 1) := by decide +kernel
theorem dX7_readAgain_60 : decode cX7_readAgain 60 = .ok (.invokevirtual 37, 3) := by decide +kernel
theorem dX7_readAgain_63 : decode cX7_readAgain 63 = .ok (.ifCond .ne 5, 3) := by decide +kernel
theorem dX7_readAgain_66 : decode cX7_readAgain 66 = .ok (.iconst 0, 1) := by decide +kernel
theorem dX7_readAgain_67 : decode cX7_readAgain 67 = .ok (.ireturn, 1) := by decide +kernel
theorem dX7_readAgain_68 : decode cX7_readAgain 68 = .ok (.iload 5, 2) := by decide +kernel
theorem dX7_readAgain_70 : decode cX7_readAgain 70 = .ok (.ifCond .lt 22, 3) := by decide +kernel
theorem dX7_readAgain_73 : decode cX7_readAgain 73 = .ok (.iload 5, 2) := by decide +kernel
theorem dX7_readAgain_75 : decode cX7_readAgain 75 = .ok (.sipush 150, 3) := by decide +kernel
theorem dX7_readAgain_78 : decode cX7_readAgain 78 = .ok (.if_icmp .ge 14, 3) := by decide +kernel
theorem dX7_readAgain_81 : decode cX7_readAgain 81 = .ok (.aload_n 0, 1) := by decide +kernel
theorem dX7_readAgain_82 : decode cX7_readAgain 82 = .ok (.getfield 21, 3) := by decide +kernel
theorem dX7_readAgain_85 : decode cX7_readAgain 85 = .ok (.iload 5, 2) := by decide +kernel
theorem dX7_readAgain_87 : decode cX7_readAgain 87 = .ok (.aload_n 0, 1) := by decide +kernel
theorem dX7_readAgain_88 : decode cX7_readAgain 88 = .ok (.getfield 24, 3) := by decide +kernel
theorem dX7_readAgain_91 : decode cX7_readAgain 91 = .ok (.iastore, 1) := by decide +kernel
theorem dX7_readAgain_92 : decode cX7_readAgain 92 = .ok (.iconst 1, 1) := by decide +kernel
theorem dX7_readAgain_93 : decode cX7_readAgain 93 = .ok (.ireturn, 1) := by decide +kernel
theorem dX7_put_0 : decode cX7_put 0 = .ok (.aload_n 0, 1) := by decide +kernel
theorem dX7_put_1 : decode cX7_put 1 = .ok (.getfield 24, 3) := by decide +kernel
theorem dX7_put_4 : decode cX7_put 4 = .ok (.ifCond .lt 68, 3) := by decide +kernel
theorem dX7_put_7 : decode cX7_put 7 = .ok (.aload_n 0, 1) := by decide +kernel
theorem dX7_put_8 : decode cX7_put 8 = .ok (.getfield 24, 3) := by decide +kernel
theorem dX7_put_11 : decode cX7_put 11 = .ok (.sipush 150, 3) := by decide +kernel
theorem dX7_put_14 : decode cX7_put 14 = .ok (.if_icmp .ge 58, 3) := by decide +kernel
theorem dX7_put_17 : decode cX7_put 17 = .ok (.aload_n 0, 1) := by decide +kernel
theorem dX7_put_18 : decode cX7_put 18 = .ok (.getfield 9, 3) := by decide +kernel
theorem dX7_put_21 : decode cX7_put 21 = .ok (.aload_n 0, 1) := by decide +kernel
theorem dX7_put_22 : decode cX7_put 22 = .ok (.getfield 24, 3) := by decide +kernel
theorem dX7_put_25 : decode cX7_put 25 = .ok (.iload_n 1, 1) := by decide +kernel
theorem dX7_put_26 : decode cX7_put 26 = .ok (.iastore, 1) := by decide +kernel
theorem dX7_put_27 : decode cX7_put 27 = .ok (.aload_n 0, 1) := by decide +kernel
theorem dX7_put_28 : decode cX7_put 28 = .ok (.getfield 15, 3) := by decide +kernel
theorem dX7_put_31 : decode cX7_put 31 = .ok (.aload_n 0, 1) := by decide +kernel
theorem dX7_put_32 : decode cX7_put 32 = .ok (.getfield 24, 3) := by decide +kernel
theorem dX7_put_35 : decode cX7_put 35 = .ok (.iload_n 2, 1) := by decide +kernel
theorem dX7_put_36 : decode cX7_put 36 = .ok (.iastore, 1) := by decide +kernel
theorem dX7_put_37 : decode cX7_put 37 = .ok (.aload_n 0, 1) := by decide +kernel
theorem dX7_put_38 : decode cX7_put 38 = .ok (.getfield 18, 3) := by decide +kernel
theorem dX7_put_41 : decode cX7_put 41 = .ok (.aload_n 0, 1) := by decide +kernel
theorem dX7_put_42 : decode cX7_put 42 = .ok (.getfield 24, 3) := by decide +kernel
theorem dX7_put_45 : decode cX7_put 45 = .ok (.iload_n 3, 1) := by decide +kernel
theorem dX7_put_46 : decode cX7_put 46 = .ok (.iastore, 1) := by decide +kernel
theorem dX7_put_47 : decode cX7_put 47 = .ok (.aload_n 0, 1) := by decide +kernel
theorem dX7_put_48 : decode cX7_put 48 = .ok (.dup, 1) := by decide +kernel
theorem dX7_put_49 : decode cX7_put 49 = .ok (.getfield 24, 3) := by decide +kernel
theorem dX7_put_52 : decode cX7_put 52 = .ok (.iconst 1, 1) := by decide +kernel
theorem dX7_put_53 : decode cX7_put 53 = .ok (.iadd, 1) := by decide +kernel
theorem dX7_put_54 : decode cX7_put 54 = .ok (.putfield 24, 3) := by decide +kernel
theorem dX7_put_57 : decode cX7_put 57 = .ok (.aload_n 0, 1) := by decide +kernel
theorem dX7_put_58 : decode cX7_put 58 = .ok (.getfield 21, 3) := by decide +kernel
theorem dX7_put_61 : decode cX7_put 61 = .ok (.aload_n 0, 1) := by decide +kernel
theorem dX7_put_62 : decode cX7_put 62 = .ok (.getfield 24, 3) := by decide +kernel
theorem dX7_put_65 : decode cX7_put 65 = .ok (.iconst 1, 1) := by decide +kernel
theorem dX7_put_66 : decode cX7_put 66 = .ok (.isub, 1) := by decide +kernel
theorem dX7_put_67 : decode cX7_put 67 = .ok (.aload_n 0, 1) := by decide +kernel
theorem dX7_put_68 : decode cX7_put 68 = .ok (.getfield 24, 3) := by decide +kernel
theorem dX7_put_71 : decode cX7_put 71 = .ok (.iastore, 1) := by decide +kernel
theorem dX7_put_72 : decode cX7_put 72 = .ok (.iconst 1, 1) := by decide +kernel
theorem dX7_put_73 : decode cX7_put 73 = .ok (.ireturn, 1) := by decide +kernel
theorem dX7_carryOut_0 : decode cX7_carryOut 0 = .ok (.iload_n 2, 1) := by decide +kernel
theorem dX7_carryOut_1 : decode cX7_carryOut 1 = .ok (.ifCond .lt 10, 3) := by decide +kernel
theorem dX7_carryOut_4 : decode cX7_carryOut 4 = .ok (.iload_n 3, 1) := by decide +kernel
theorem dX7_carryOut_5 : decode cX7_carryOut 5 = .ok (.sipush 150, 3) := by decide +kernel
theorem dX7_carryOut_8 : decode cX7_carryOut 8 = .ok (.if_icmp .le 4, 3) := by decide +kernel
theorem dX7_carryOut_11 : decode cX7_carryOut 11 = .ok (.return_, 1) := by decide +kernel
theorem dX7_carryOut_12 : decode cX7_carryOut 12 = .ok (.iload_n 2, 1) := by decide +kernel
theorem dX7_carryOut_13 : decode cX7_carryOut 13 = .ok (.istore 5, 2) := by decide +kernel
theorem dX7_carryOut_15 : decode cX7_carryOut 15 = .ok (.iload 5, 2) := by decide +kernel
theorem dX7_carryOut_17 : decode cX7_carryOut 17 = .ok (.iload_n 3, 1) := by decide +kernel
theorem dX7_carryOut_18 : decode cX7_carryOut 18 = .ok (.if_icmp .ge 166, 3) := by decide +kernel
theorem dX7_carryOut_21 : decode cX7_carryOut 21 = .ok (.aload_n 0, 1) := by decide +kernel
theorem dX7_carryOut_22 : decode cX7_carryOut 22 = .ok (.getfield 28, 3) := by decide +kernel
theorem dX7_carryOut_25 : decode cX7_carryOut 25 = .ok (.sipush 200, 3) := by decide +kernel
theorem dX7_carryOut_28 : decode cX7_carryOut 28 = .ok (.if_icmp .ge 156, 3) := by decide +kernel
theorem dX7_carryOut_31 : decode cX7_carryOut 31 = .ok (.aload_n 0, 1) := by decide +kernel
theorem dX7_carryOut_32 : decode cX7_carryOut 32 = .ok (.dup, 1) := by decide +kernel
theorem dX7_carryOut_33 : decode cX7_carryOut 33 = .ok (.getfield 28, 3) := by decide +kernel
theorem dX7_carryOut_36 : decode cX7_carryOut 36 = .ok (.iconst 1, 1) := by decide +kernel
theorem dX7_carryOut_37 : decode cX7_carryOut 37 = .ok (.iadd, 1) := by decide +kernel
theorem dX7_carryOut_38 : decode cX7_carryOut 38 = .ok (.putfield 28, 3) := by decide +kernel
theorem dX7_carryOut_41 : decode cX7_carryOut 41 = .ok (.aload_n 0, 1) := by decide +kernel
theorem dX7_carryOut_42 : decode cX7_carryOut 42 = .ok (.getfield 9, 3) := by decide +kernel
theorem dX7_carryOut_45 : decode cX7_carryOut 45 = .ok (.iload 5, 2) := by decide +kernel
theorem dX7_carryOut_47 : decode cX7_carryOut 47 = .ok (.iaload, 1) := by decide +kernel
theorem dX7_carryOut_48 : decode cX7_carryOut 48 = .ok (.bipush 6, 2) := by decide +kernel
theorem dX7_carryOut_50 : decode cX7_carryOut 50 = .ok (.if_icmp .ne 64, 3) := by decide +kernel
theorem dX7_carryOut_53 : decode cX7_carryOut 53 = .ok (.iconst 0, 1) := by decide +kernel
theorem dX7_carryOut_54 : decode cX7_carryOut 54 = .ok (.istore 6, 2) := by decide +kernel
theorem dX7_carryOut_56 : decode cX7_carryOut 56 = .ok (.iload 6, 2) := by decide +kernel
theorem dX7_carryOut_58 : decode cX7_carryOut 58 = .ok (.aload_n 0, 1) := by decide +kernel
theorem dX7_carryOut_59 : decode cX7_carryOut 59 = .ok (.getfield 15, 3) := by decide +kernel
theorem dX7_carryOut_62 : decode cX7_carryOut 62 = .ok (.iload 5, 2) := by decide +kernel
theorem dX7_carryOut_64 : decode cX7_carryOut 64 = .ok (.iaload, 1) := by decide +kernel
theorem dX7_carryOut_65 : decode cX7_carryOut 65 = .ok (.if_icmp .ge 46, 3) := by decide +kernel
theorem dX7_carryOut_68 : decode cX7_carryOut 68 = .ok (.aload_n 0, 1) := by decide +kernel
theorem dX7_carryOut_69 : decode cX7_carryOut 69 = .ok (.getfield 28, 3) := by decide +kernel
theorem dX7_carryOut_72 : decode cX7_carryOut 72 = .ok (.sipush 200, 3) := by decide +kernel
theorem dX7_carryOut_75 : decode cX7_carryOut 75 = .ok (.if_icmp .ge 36, 3) := by decide +kernel
theorem dX7_carryOut_78 : decode cX7_carryOut 78 = .ok (.iload 4, 2) := by decide +kernel
theorem dX7_carryOut_80 : decode cX7_carryOut 80 = .ok (.bipush 6, 2) := by decide +kernel
theorem dX7_carryOut_82 : decode cX7_carryOut 82 = .ok (.if_icmp .ge 29, 3) := by decide +kernel
theorem dX7_carryOut_85 : decode cX7_carryOut 85 = .ok (.aload_n 0, 1) := by decide +kernel
theorem dX7_carryOut_86 : decode cX7_carryOut 86 = .ok (.aload_n 1, 1) := by decide +kernel
theorem dX7_carryOut_87 : decode cX7_carryOut 87 = .ok (.iload 5, 2) := by decide +kernel
theorem dX7_carryOut_89 : decode cX7_carryOut 89 = .ok (.iconst 1, 1) := by decide +kernel
theorem dX7_carryOut_90 : decode cX7_carryOut 90 = .ok (.iadd, 1) := by decide +kernel
theorem dX7_carryOut_91 : decode cX7_carryOut 91 = .ok (.aload_n 0, 1) := by decide +kernel
theorem dX7_carryOut_92 : decode cX7_carryOut 92 = .ok (.getfield 21, 3) := by decide +kernel
theorem dX7_carryOut_95 : decode cX7_carryOut 95 = .ok (.iload 5, 2) := by decide +kernel
theorem dX7_carryOut_97 : decode cX7_carryOut 97 = .ok (.iaload, 1) := by decide +kernel
theorem dX7_carryOut_98 : decode cX7_carryOut 98 = .ok (.iload 4, 2) := by decide +kernel
theorem dX7_carryOut_100 : decode cX7_carryOut 100 = .ok (.iconst 1, 1) := by decide +kernel
theorem dX7_carryOut_101 : decode cX7_carryOut 101 = .ok (.iadd, 1) := by decide +kernel
theorem dX7_carryOut_102 : decode cX7_carryOut 102 = .ok (.invokevirtual 111, 3) := by decide +kernel
theorem dX7_carryOut_105 : decode cX7_carryOut 105 = .ok (.iinc 6 1, 3) := by decide +kernel
theorem dX7_carryOut_108 : decode cX7_carryOut 108 = .ok (.goto (-52), 3) := by decide +kernel
theorem dX7_carryOut_111 : decode cX7_carryOut 111 = .ok (.goto 54, 3) := by decide +kernel
theorem dX7_carryOut_114 : decode cX7_carryOut 114 = .ok (.aload_n 1, 1) := by decide +kernel
theorem dX7_carryOut_115 : decode cX7_carryOut 115 = .ok (.aload_n 0, 1) := by decide +kernel
theorem dX7_carryOut_116 : decode cX7_carryOut 116 = .ok (.getfield 9, 3) := by decide +kernel
theorem dX7_carryOut_119 : decode cX7_carryOut 119 = .ok (.iload 5, 2) := by decide +kernel
theorem dX7_carryOut_121 : decode cX7_carryOut 121 = .ok (.iaload, 1) := by decide +kernel
theorem dX7_carryOut_122 : decode cX7_carryOut 122 = .ok (.aload_n 0, 1) := by decide +kernel
theorem dX7_carryOut_123 : decode cX7_carryOut 123 = .ok (.getfield 15, 3) := by decide +kernel
theorem dX7_carryOut_126 : decode cX7_carryOut 126 = .ok (.iload 5, 2) := by decide +kernel
theorem dX7_carryOut_128 : decode cX7_carryOut 128 = .ok (.iaload, 1) := by decide +kernel
theorem dX7_carryOut_129 : decode cX7_carryOut 129 = .ok (.aload_n 0, 1) := by decide +kernel
theorem dX7_carryOut_130 : decode cX7_carryOut 130 = .ok (.getfield 18, 3) := by decide +kernel
theorem dX7_carryOut_133 : decode cX7_carryOut 133 = .ok (.iload 5, 2) := by decide +kernel
theorem dX7_carryOut_135 : decode cX7_carryOut 135 = .ok (.iaload, 1) := by decide +kernel
theorem dX7_carryOut_136 : decode cX7_carryOut 136 = .ok (.invokestatic 115, 3) := by decide +kernel
theorem dX7_carryOut_139 : decode cX7_carryOut 139 = .ok (.ifCond .eq 16, 3) := by decide +kernel
theorem dX7_carryOut_142 : decode cX7_carryOut 142 = .ok (.aload_n 0, 1) := by decide +kernel
theorem dX7_carryOut_143 : decode cX7_carryOut 143 = .ok (.dup, 1) := by decide +kernel
theorem dX7_carryOut_144 : decode cX7_carryOut 144 = .ok (.getfield 31, 3) := by decide +kernel
theorem dX7_carryOut_147 : decode cX7_carryOut 147 = .ok (.iconst 1, 1) := by decide +kernel
theorem dX7_carryOut_148 : decode cX7_carryOut 148 = .ok (.iadd, 1) := by decide +kernel
theorem dX7_carryOut_149 : decode cX7_carryOut 149 = .ok (.putfield 31, 3) := by decide +kernel
theorem dX7_carryOut_152 : decode cX7_carryOut 152 = .ok (.goto 13, 3) := by decide +kernel
theorem dX7_carryOut_155 : decode cX7_carryOut 155 = .ok (.aload_n 0, 1) := by decide +kernel
theorem dX7_carryOut_156 : decode cX7_carryOut 156 = .ok (.dup, 1) := by decide +kernel
theorem dX7_carryOut_157 : decode cX7_carryOut 157 = .ok (.getfield 34, 3) := by decide +kernel
theorem dX7_carryOut_160 : decode cX7_carryOut 160 = .ok (.iconst 1, 1) := by decide +kernel
theorem dX7_carryOut_161 : decode cX7_carryOut 161 = .ok (.iadd, 1) := by decide +kernel
theorem dX7_carryOut_162 : decode cX7_carryOut 162 = .ok (.putfield 34, 3) := by decide +kernel
theorem dX7_carryOut_165 : decode cX7_carryOut 165 = .ok (.iload 5, 2) := by decide +kernel
theorem dX7_carryOut_167 : decode cX7_carryOut 167 = .ok (.iconst 1, 1) := by decide +kernel
theorem dX7_carryOut_168 : decode cX7_carryOut 168 = .ok (.iadd, 1) := by decide +kernel
theorem dX7_carryOut_169 : decode cX7_carryOut 169 = .ok (.aload_n 0, 1) := by decide +kernel
theorem dX7_carryOut_170 : decode cX7_carryOut 170 = .ok (.getfield 21, 3) := by decide +kernel
theorem dX7_carryOut_173 : decode cX7_carryOut 173 = .ok (.iload 5, 2) := by decide +kernel
theorem dX7_carryOut_175 : decode cX7_carryOut 175 = .ok (.iaload, 1) := by decide +kernel
theorem dX7_carryOut_176 : decode cX7_carryOut 176 = .ok (.invokestatic 119, 3) := by decide +kernel
theorem dX7_carryOut_179 : decode cX7_carryOut 179 = .ok (.istore 5, 2) := by decide +kernel
theorem dX7_carryOut_181 : decode cX7_carryOut 181 = .ok (.goto (-166), 3) := by decide +kernel
theorem dX7_carryOut_184 : decode cX7_carryOut 184 = .ok (.return_, 1) := by decide +kernel
theorem dX7_isDone_0 : decode cX7_isDone 0 = .ok (.iload_n 1, 1) := by decide +kernel
theorem dX7_isDone_1 : decode cX7_isDone 1 = .ok (.tableswitch 67 0 4 #[35, 41, 48, 54, 60], 35) := by decide +kernel
theorem dX7_isDone_36 : decode cX7_isDone 36 = .ok (.aload_n 0, 1) := by decide +kernel
theorem dX7_isDone_37 : decode cX7_isDone 37 = .ok (.iload_n 2, 1) := by decide +kernel
theorem dX7_isDone_38 : decode cX7_isDone 38 = .ok (.invokevirtual 124, 3) := by decide +kernel
theorem dX7_isDone_41 : decode cX7_isDone 41 = .ok (.ireturn, 1) := by decide +kernel
theorem dX7_isDone_42 : decode cX7_isDone 42 = .ok (.aload_n 0, 1) := by decide +kernel
theorem dX7_isDone_43 : decode cX7_isDone 43 = .ok (.iload_n 2, 1) := by decide +kernel
theorem dX7_isDone_44 : decode cX7_isDone 44 = .ok (.iload_n 3, 1) := by decide +kernel
theorem dX7_isDone_45 : decode cX7_isDone 45 = .ok (.invokevirtual 129, 3) := by decide +kernel
theorem dX7_isDone_48 : decode cX7_isDone 48 = .ok (.ireturn, 1) := by decide +kernel
theorem dX7_isDone_49 : decode cX7_isDone 49 = .ok (.aload_n 0, 1) := by decide +kernel
theorem dX7_isDone_50 : decode cX7_isDone 50 = .ok (.iload_n 2, 1) := by decide +kernel
theorem dX7_isDone_51 : decode cX7_isDone 51 = .ok (.invokevirtual 133, 3) := by decide +kernel
theorem dX7_isDone_54 : decode cX7_isDone 54 = .ok (.ireturn, 1) := by decide +kernel
theorem dX7_isDone_55 : decode cX7_isDone 55 = .ok (.aload_n 0, 1) := by decide +kernel
theorem dX7_isDone_56 : decode cX7_isDone 56 = .ok (.iload_n 2, 1) := by decide +kernel
theorem dX7_isDone_57 : decode cX7_isDone 57 = .ok (.invokevirtual 136, 3) := by decide +kernel
theorem dX7_isDone_60 : decode cX7_isDone 60 = .ok (.ireturn, 1) := by decide +kernel
theorem dX7_isDone_61 : decode cX7_isDone 61 = .ok (.aload_n 0, 1) := by decide +kernel
theorem dX7_isDone_62 : decode cX7_isDone 62 = .ok (.iload_n 2, 1) := by decide +kernel
theorem dX7_isDone_63 : decode cX7_isDone 63 = .ok (.iload_n 3, 1) := by decide +kernel
theorem dX7_isDone_64 : decode cX7_isDone 64 = .ok (.invokevirtual 139, 3) := by decide +kernel
theorem dX7_isDone_67 : decode cX7_isDone 67 = .ok (.ireturn, 1) := by decide +kernel
theorem dX7_isDone_68 : decode cX7_isDone 68 = .ok (.aload_n 0, 1) := by decide +kernel
theorem dX7_isDone_69 : decode cX7_isDone 69 = .ok (.getfield 142, 3) := by decide +kernel
theorem dX7_isDone_72 : decode cX7_isDone 72 = .ok (.sipush 400, 3) := by decide +kernel
theorem dX7_isDone_75 : decode cX7_isDone 75 = .ok (.if_icmp .lt 5, 3) := by decide +kernel
theorem dX7_isDone_78 : decode cX7_isDone 78 = .ok (.iconst 0, 1) := by decide +kernel
theorem dX7_isDone_79 : decode cX7_isDone 79 = .ok (.ireturn, 1) := by decide +kernel
theorem dX7_isDone_80 : decode cX7_isDone 80 = .ok (.aload_n 0, 1) := by decide +kernel
theorem dX7_isDone_81 : decode cX7_isDone 81 = .ok (.invokevirtual 144, 3) := by decide +kernel
theorem dX7_isDone_84 : decode cX7_isDone 84 = .ok (.iconst 1, 1) := by decide +kernel
theorem dX7_isDone_85 : decode cX7_isDone 85 = .ok (.ireturn, 1) := by decide +kernel
theorem dX8_has_0 : decode cX8_has 0 = .ok (.iload_n 0, 1) := by decide +kernel
theorem dX8_has_1 : decode cX8_has 1 = .ok (.ifCond .eq 5, 3) := by decide +kernel
theorem dX8_has_4 : decode cX8_has 4 = .ok (.iconst 0, 1) := by decide +kernel
theorem dX8_has_5 : decode cX8_has 5 = .ok (.ireturn, 1) := by decide +kernel
theorem dX8_has_6 : decode cX8_has 6 = .ok (.iload_n 1, 1) := by decide +kernel
theorem dX8_has_7 : decode cX8_has 7 = .ok (.ifCond .ne 9, 3) := by decide +kernel
theorem dX8_has_10 : decode cX8_has 10 = .ok (.iload_n 2, 1) := by decide +kernel
theorem dX8_has_11 : decode cX8_has 11 = .ok (.iload_n 3, 1) := by decide +kernel
theorem dX8_has_12 : decode cX8_has 12 = .ok (.isub, 1) := by decide +kernel
theorem dX8_has_13 : decode cX8_has 13 = .ok (.goto 5, 3) := by decide +kernel
theorem dX8_has_16 : decode cX8_has 16 = .ok (.iload_n 3, 1) := by decide +kernel
theorem dX8_has_17 : decode cX8_has 17 = .ok (.ineg, 1) := by decide +kernel
theorem dX8_has_18 : decode cX8_has 18 = .ok (.ireturn, 1) := by decide +kernel
theorem dX8_rests_0 : decode cX8_rests 0 = .ok (.iconst 1, 1) := by decide +kernel
theorem dX8_rests_1 : decode cX8_rests 1 = .ok (.iload_n 0, 1) := by decide +kernel
theorem dX8_rests_2 : decode cX8_rests 2 = .ok (.isub, 1) := by decide +kernel
theorem dX8_rests_3 : decode cX8_rests 3 = .ok (.iload_n 1, 1) := by decide +kernel
theorem dX8_rests_4 : decode cX8_rests 4 = .ok (.iload_n 2, 1) := by decide +kernel
theorem dX8_rests_5 : decode cX8_rests 5 = .ok (.iload_n 3, 1) := by decide +kernel
theorem dX8_rests_6 : decode cX8_rests 6 = .ok (.invokestatic 9, 3) := by decide +kernel
theorem dX8_rests_9 : decode cX8_rests 9 = .ok (.iload_n 0, 1) := by decide +kernel
theorem dX8_rests_10 : decode cX8_rests 10 = .ok (.iload_n 1, 1) := by decide +kernel
theorem dX8_rests_11 : decode cX8_rests 11 = .ok (.iload_n 2, 1) := by decide +kernel
theorem dX8_rests_12 : decode cX8_rests 12 = .ok (.iload_n 3, 1) := by decide +kernel
theorem dX8_rests_13 : decode cX8_rests 13 = .ok (.invokestatic 9, 3) := by decide +kernel
theorem dX8_rests_16 : decode cX8_rests 16 = .ok (.if_icmp .gt 26, 3) := by decide +kernel
theorem dX8_rests_19 : decode cX8_rests 19 = .ok (.iconst 1, 1) := by decide +kernel
theorem dX8_rests_20 : decode cX8_rests 20 = .ok (.iload_n 1, 1) := by decide +kernel
theorem dX8_rests_21 : decode cX8_rests 21 = .ok (.isub, 1) := by decide +kernel
theorem dX8_rests_22 : decode cX8_rests 22 = .ok (.iload_n 0, 1) := by decide +kernel
theorem dX8_rests_23 : decode cX8_rests 23 = .ok (.iload_n 2, 1) := by decide +kernel
theorem dX8_rests_24 : decode cX8_rests 24 = .ok (.iload_n 3, 1) := by decide +kernel
theorem dX8_rests_25 : decode cX8_rests 25 = .ok (.invokestatic 9, 3) := by decide +kernel
theorem dX8_rests_28 : decode cX8_rests 28 = .ok (.iload_n 1, 1) := by decide +kernel
theorem dX8_rests_29 : decode cX8_rests 29 = .ok (.iload_n 0, 1) := by decide +kernel
theorem dX8_rests_30 : decode cX8_rests 30 = .ok (.iload_n 2, 1) := by decide +kernel
theorem dX8_rests_31 : decode cX8_rests 31 = .ok (.iload_n 3, 1) := by decide +kernel
theorem dX8_rests_32 : decode cX8_rests 32 = .ok (.invokestatic 9, 3) := by decide +kernel
theorem dX8_rests_35 : decode cX8_rests 35 = .ok (.if_icmp .gt 7, 3) := by decide +kernel
theorem dX8_rests_38 : decode cX8_rests 38 = .ok (.iconst 1, 1) := by decide +kernel
theorem dX8_rests_39 : decode cX8_rests 39 = .ok (.goto 4, 3) := by decide +kernel
theorem dX8_rests_42 : decode cX8_rests 42 = .ok (.iconst 0, 1) := by decide +kernel
theorem dX8_rests_43 : decode cX8_rests 43 = .ok (.ireturn, 1) := by decide +kernel
theorem dX8_restsMany_0 : decode cX8_restsMany 0 = .ok (.iconst 0, 1) := by decide +kernel
theorem dX8_restsMany_1 : decode cX8_restsMany 1 = .ok (.istore_n 2, 1) := by decide +kernel
theorem dX8_restsMany_2 : decode cX8_restsMany 2 = .ok (.iconst 0, 1) := by decide +kernel
theorem dX8_restsMany_3 : decode cX8_restsMany 3 = .ok (.istore_n 3, 1) := by decide +kernel
theorem dX8_restsMany_4 : decode cX8_restsMany 4 = .ok (.iload_n 3, 1) := by decide +kernel
theorem dX8_restsMany_5 : decode cX8_restsMany 5 = .ok (.iconst 4, 1) := by decide +kernel
theorem dX8_restsMany_6 : decode cX8_restsMany 6 = .ok (.if_icmp .ge 31, 3) := by decide +kernel
theorem dX8_restsMany_9 : decode cX8_restsMany 9 = .ok (.iload_n 2, 1) := by decide +kernel
theorem dX8_restsMany_10 : decode cX8_restsMany 10 = .ok (.iload_n 3, 1) := by decide +kernel
theorem dX8_restsMany_11 : decode cX8_restsMany 11 = .ok (.iconst 2, 1) := by decide +kernel
theorem dX8_restsMany_12 : decode cX8_restsMany 12 = .ok (.idiv, 1) := by decide +kernel
theorem dX8_restsMany_13 : decode cX8_restsMany 13 = .ok (.iload_n 3, 1) := by decide +kernel
theorem dX8_restsMany_14 : decode cX8_restsMany 14 = .ok (.iconst 2, 1) := by decide +kernel
theorem dX8_restsMany_15 : decode cX8_restsMany 15 = .ok (.irem, 1) := by decide +kernel
theorem dX8_restsMany_16 : decode cX8_restsMany 16 = .ok (.iload_n 0, 1) := by decide +kernel
theorem dX8_restsMany_17 : decode cX8_restsMany 17 = .ok (.iload_n 1, 1) := by decide +kernel
theorem dX8_restsMany_18 : decode cX8_restsMany 18 = .ok (.invokestatic 15, 3) := by decide +kernel
theorem dX8_restsMany_21 : decode cX8_restsMany 21 = .ok (.ifCond .eq 7, 3) := by decide +kernel
theorem dX8_restsMany_24 : decode cX8_restsMany 24 = .ok (.iconst 1, 1) := by decide +kernel
theorem dX8_restsMany_25 : decode cX8_restsMany 25 = .ok (.goto 4, 3) := by decide +kernel
theorem dX8_restsMany_28 : decode cX8_restsMany 28 = .ok (.iconst 0, 1) := by decide +kernel
theorem dX8_restsMany_29 : decode cX8_restsMany 29 = .ok (.iadd, 1) := by decide +kernel
theorem dX8_restsMany_30 : decode cX8_restsMany 30 = .ok (.istore_n 2, 1) := by decide +kernel
theorem dX8_restsMany_31 : decode cX8_restsMany 31 = .ok (.iinc 3 1, 3) := by decide +kernel
theorem dX8_restsMany_34 : decode cX8_restsMany 34 = .ok (.goto (-30), 3) := by decide +kernel
theorem dX8_restsMany_37 : decode cX8_restsMany 37 = .ok (.iload_n 2, 1) := by decide +kernel
theorem dX8_restsMany_38 : decode cX8_restsMany 38 = .ok (.ireturn, 1) := by decide +kernel
theorem dX8_firstRest_0 : decode cX8_firstRest 0 = .ok (.iconst 0, 1) := by decide +kernel
theorem dX8_firstRest_1 : decode cX8_firstRest 1 = .ok (.istore_n 2, 1) := by decide +kernel
theorem dX8_firstRest_2 : decode cX8_firstRest 2 = .ok (.iload_n 2, 1) := by decide +kernel
theorem dX8_firstRest_3 : decode cX8_firstRest 3 = .ok (.iconst 4, 1) := by decide +kernel
theorem dX8_firstRest_4 : decode cX8_firstRest 4 = .ok (.if_icmp .ge 34, 3) := by decide +kernel
theorem dX8_firstRest_7 : decode cX8_firstRest 7 = .ok (.iload_n 2, 1) := by decide +kernel
theorem dX8_firstRest_8 : decode cX8_firstRest 8 = .ok (.iconst 2, 1) := by decide +kernel
theorem dX8_firstRest_9 : decode cX8_firstRest 9 = .ok (.idiv, 1) := by decide +kernel
theorem dX8_firstRest_10 : decode cX8_firstRest 10 = .ok (.iload_n 2, 1) := by decide +kernel
theorem dX8_firstRest_11 : decode cX8_firstRest 11 = .ok (.iconst 2, 1) := by decide +kernel
theorem dX8_firstRest_12 : decode cX8_firstRest 12 = .ok (.irem, 1) := by decide +kernel
theorem dX8_firstRest_13 : decode cX8_firstRest 13 = .ok (.iload_n 0, 1) := by decide +kernel
theorem dX8_firstRest_14 : decode cX8_firstRest 14 = .ok (.iload_n 1, 1) := by decide +kernel
theorem dX8_firstRest_15 : decode cX8_firstRest 15 = .ok (.invokestatic 15, 3) := by decide +kernel
theorem dX8_firstRest_18 : decode cX8_firstRest 18 = .ok (.ifCond .eq 14, 3) := by decide +kernel
theorem dX8_firstRest_21 : decode cX8_firstRest 21 = .ok (.bipush 10, 2) := by decide +kernel
theorem dX8_firstRest_23 : decode cX8_firstRest 23 = .ok (.iload_n 2, 1) := by decide +kernel
theorem dX8_firstRest_24 : decode cX8_firstRest 24 = .ok (.iconst 2, 1) := by decide +kernel
theorem dX8_firstRest_25 : decode cX8_firstRest 25 = .ok (.idiv, 1) := by decide +kernel
theorem dX8_firstRest_26 : decode cX8_firstRest 26 = .ok (.imul, 1) := by decide +kernel
theorem dX8_firstRest_27 : decode cX8_firstRest 27 = .ok (.iload_n 2, 1) := by decide +kernel
theorem dX8_firstRest_28 : decode cX8_firstRest 28 = .ok (.iconst 2, 1) := by decide +kernel
theorem dX8_firstRest_29 : decode cX8_firstRest 29 = .ok (.irem, 1) := by decide +kernel
theorem dX8_firstRest_30 : decode cX8_firstRest 30 = .ok (.iadd, 1) := by decide +kernel
theorem dX8_firstRest_31 : decode cX8_firstRest 31 = .ok (.ireturn, 1) := by decide +kernel
theorem dX8_firstRest_32 : decode cX8_firstRest 32 = .ok (.iinc 2 1, 3) := by decide +kernel
theorem dX8_firstRest_35 : decode cX8_firstRest 35 = .ok (.goto (-33), 3) := by decide +kernel
theorem dX8_firstRest_38 : decode cX8_firstRest 38 = .ok (.iconst (-1), 1) := by decide +kernel
theorem dX8_firstRest_39 : decode cX8_firstRest 39 = .ok (.ireturn, 1) := by decide +kernel
theorem dX8_togetherAt_0 : decode cX8_togetherAt 0 = .ok (.iload_n 0, 1) := by decide +kernel
theorem dX8_togetherAt_1 : decode cX8_togetherAt 1 = .ok (.iconst (-1), 1) := by decide +kernel
theorem dX8_togetherAt_2 : decode cX8_togetherAt 2 = .ok (.if_icmp .ne 5, 3) := by decide +kernel
theorem dX8_togetherAt_5 : decode cX8_togetherAt 5 = .ok (.iconst 0, 1) := by decide +kernel
theorem dX8_togetherAt_6 : decode cX8_togetherAt 6 = .ok (.ireturn, 1) := by decide +kernel
theorem dX8_togetherAt_7 : decode cX8_togetherAt 7 = .ok (.iload_n 0, 1) := by decide +kernel
theorem dX8_togetherAt_8 : decode cX8_togetherAt 8 = .ok (.bipush 10, 2) := by decide +kernel
theorem dX8_togetherAt_10 : decode cX8_togetherAt 10 = .ok (.idiv, 1) := by decide +kernel
theorem dX8_togetherAt_11 : decode cX8_togetherAt 11 = .ok (.iload_n 0, 1) := by decide +kernel
theorem dX8_togetherAt_12 : decode cX8_togetherAt 12 = .ok (.bipush 10, 2) := by decide +kernel
theorem dX8_togetherAt_14 : decode cX8_togetherAt 14 = .ok (.irem, 1) := by decide +kernel
theorem dX8_togetherAt_15 : decode cX8_togetherAt 15 = .ok (.iload_n 1, 1) := by decide +kernel
theorem dX8_togetherAt_16 : decode cX8_togetherAt 16 = .ok (.iload_n 2, 1) := by decide +kernel
theorem dX8_togetherAt_17 : decode cX8_togetherAt 17 = .ok (.invokestatic 9, 3) := by decide +kernel
theorem dX8_togetherAt_20 : decode cX8_togetherAt 20 = .ok (.iload_n 0, 1) := by decide +kernel
theorem dX8_togetherAt_21 : decode cX8_togetherAt 21 = .ok (.bipush 10, 2) := by decide +kernel
theorem dX8_togetherAt_23 : decode cX8_togetherAt 23 = .ok (.irem, 1) := by decide +kernel
theorem dX8_togetherAt_24 : decode cX8_togetherAt 24 = .ok (.iload_n 0, 1) := by decide +kernel
theorem dX8_togetherAt_25 : decode cX8_togetherAt 25 = .ok (.bipush 10, 2) := by decide +kernel
theorem dX8_togetherAt_27 : decode cX8_togetherAt 27 = .ok (.idiv, 1) := by decide +kernel
theorem dX8_togetherAt_28 : decode cX8_togetherAt 28 = .ok (.iload_n 1, 1) := by decide +kernel
theorem dX8_togetherAt_29 : decode cX8_togetherAt 29 = .ok (.iload_n 2, 1) := by decide +kernel
theorem dX8_togetherAt_30 : decode cX8_togetherAt 30 = .ok (.invokestatic 9, 3) := by decide +kernel
theorem dX8_togetherAt_33 : decode cX8_togetherAt 33 = .ok (.iadd, 1) := by decide +kernel
theorem dX8_togetherAt_34 : decode cX8_togetherAt 34 = .ok (.ireturn, 1) := by decide +kernel
theorem dX8_homeFraction_0 : decode cX8_homeFraction 0 = .ok (.lconst 0, 1) := by decide +kernel
theorem dX8_homeFraction_1 : decode cX8_homeFraction 1 = .ok (.lstore 4, 2) := by decide +kernel
theorem dX8_homeFraction_3 : decode cX8_homeFraction 3 = .ok (.lconst 1, 1) := by decide +kernel
theorem dX8_homeFraction_4 : decode cX8_homeFraction 4 = .ok (.lstore 6, 2) := by decide +kernel
theorem dX8_homeFraction_6 : decode cX8_homeFraction 6 = .ok (.iconst 0, 1) := by decide +kernel
theorem dX8_homeFraction_7 : decode cX8_homeFraction 7 = .ok (.istore 8, 2) := by decide +kernel
theorem dX8_homeFraction_9 : decode cX8_homeFraction 9 = .ok (.iload 8, 2) := by decide +kernel
theorem dX8_homeFraction_11 : decode cX8_homeFraction 11 = .ok (.iload_n 0, 1) := by decide +kernel
theorem dX8_homeFraction_12 : decode cX8_homeFraction 12 = .ok (.if_icmp .gt 57, 3) := by decide +kernel
theorem dX8_homeFraction_15 : decode cX8_homeFraction 15 = .ok (.iload 8, 2) := by decide +kernel
theorem dX8_homeFraction_17 : decode cX8_homeFraction 17 = .ok (.iload_n 1, 1) := by decide +kernel
theorem dX8_homeFraction_18 : decode cX8_homeFraction 18 = .ok (.if_icmp .gt 51, 3) := by decide +kernel
theorem dX8_homeFraction_21 : decode cX8_homeFraction 21 = .ok (.lload 4, 2) := by decide +kernel
theorem dX8_homeFraction_23 : decode cX8_homeFraction 23 = .ok (.lload 6, 2) := by decide +kernel
theorem dX8_homeFraction_25 : decode cX8_homeFraction 25 = .ok (.bipush 16, 2) := by decide +kernel
theorem dX8_homeFraction_27 : decode cX8_homeFraction 27 = .ok (.iload_n 2, 1) := by decide +kernel
theorem dX8_homeFraction_28 : decode cX8_homeFraction 28 = .ok (.isub, 1) := by decide +kernel
theorem dX8_homeFraction_29 : decode cX8_homeFraction 29 = .ok (.iload 8, 2) := by decide +kernel
theorem dX8_homeFraction_31 : decode cX8_homeFraction 31 = .ok (.invokestatic 19, 3) := by decide +kernel
theorem dX8_homeFraction_34 : decode cX8_homeFraction 34 = .ok (.lmul, 1) := by decide +kernel
theorem dX8_homeFraction_35 : decode cX8_homeFraction 35 = .ok (.iload_n 2, 1) := by decide +kernel
theorem dX8_homeFraction_36 : decode cX8_homeFraction 36 = .ok (.iload_n 0, 1) := by decide +kernel
theorem dX8_homeFraction_37 : decode cX8_homeFraction 37 = .ok (.iload 8, 2) := by decide +kernel
theorem dX8_homeFraction_39 : decode cX8_homeFraction 39 = .ok (.isub, 1) := by decide +kernel
theorem dX8_homeFraction_40 : decode cX8_homeFraction 40 = .ok (.invokestatic 19, 3) := by decide +kernel
theorem dX8_homeFraction_43 : decode cX8_homeFraction 43 = .ok (.lmul, 1) := by decide +kernel
theorem dX8_homeFraction_44 : decode cX8_homeFraction 44 = .ok (.ladd, 1) := by decide +kernel
theorem dX8_homeFraction_45 : decode cX8_homeFraction 45 = .ok (.lstore 4, 2) := by decide +kernel
theorem dX8_homeFraction_47 : decode cX8_homeFraction 47 = .ok (.lload 6, 2) := by decide +kernel
theorem dX8_homeFraction_49 : decode cX8_homeFraction 49 = .ok (.iload_n 0, 1) := by decide +kernel
theorem dX8_homeFraction_50 : decode cX8_homeFraction 50 = .ok (.iload 8, 2) := by decide +kernel
theorem dX8_homeFraction_52 : decode cX8_homeFraction 52 = .ok (.isub, 1) := by decide +kernel
theorem dX8_homeFraction_53 : decode cX8_homeFraction 53 = .ok (.i2l, 1) := by decide +kernel
theorem dX8_homeFraction_54 : decode cX8_homeFraction 54 = .ok (.lmul, 1) := by decide +kernel
theorem dX8_homeFraction_55 : decode cX8_homeFraction 55 = .ok (.iload 8, 2) := by decide +kernel
theorem dX8_homeFraction_57 : decode cX8_homeFraction 57 = .ok (.iconst 1, 1) := by decide +kernel
theorem dX8_homeFraction_58 : decode cX8_homeFraction 58 = .ok (.iadd, 1) := by decide +kernel
theorem dX8_homeFraction_59 : decode cX8_homeFraction 59 = .ok (.i2l, 1) := by decide +kernel
theorem dX8_homeFraction_60 : decode cX8_homeFraction 60 = .ok (.ldiv, 1) := by decide +kernel
theorem dX8_homeFraction_61 : decode cX8_homeFraction 61 = .ok (.lstore 6, 2) := by decide +kernel
theorem dX8_homeFraction_63 : decode cX8_homeFraction 63 = .ok (.iinc 8 1, 3) := by decide +kernel
theorem dX8_homeFraction_66 : decode cX8_homeFraction 66 = .ok (.goto (-57), 3) := by decide +kernel
theorem dX8_homeFraction_69 : decode cX8_homeFraction 69 = .ok (.bipush 16, 2) := by decide +kernel
theorem dX8_homeFraction_71 : decode cX8_homeFraction 71 = .ok (.iload_n 0, 1) := by decide +kernel
theorem dX8_homeFraction_72 : decode cX8_homeFraction 72 = .ok (.invokestatic 19, 3) := by decide +kernel
theorem dX8_homeFraction_75 : decode cX8_homeFraction 75 = .ok (.lstore 8, 2) := by decide +kernel
theorem dX8_homeFraction_77 : decode cX8_homeFraction 77 = .ok (.iconst 0, 1) := by decide +kernel
theorem dX8_homeFraction_78 : decode cX8_homeFraction 78 = .ok (.istore 10, 2) := by decide +kernel
theorem dX8_homeFraction_80 : decode cX8_homeFraction 80 = .ok (.iload 10, 2) := by decide +kernel
theorem dX8_homeFraction_82 : decode cX8_homeFraction 82 = .ok (.bipush 48, 2) := by decide +kernel
theorem dX8_homeFraction_84 : decode cX8_homeFraction 84 = .ok (.if_icmp .ge 47, 3) := by decide +kernel
theorem dX8_homeFraction_87 : decode cX8_homeFraction 87 = .ok (.lload 4, 2) := by decide +kernel
theorem dX8_homeFraction_89 : decode cX8_homeFraction 89 = .ok (.ldc2_w 23, 3) := by decide +kernel
theorem dX8_homeFraction_92 : decode cX8_homeFraction 92 = .ok (.lrem, 1) := by decide +kernel
theorem dX8_homeFraction_93 : decode cX8_homeFraction 93 = .ok (.lconst 0, 1) := by decide +kernel
theorem dX8_homeFraction_94 : decode cX8_homeFraction 94 = .ok (.lcmp, 1) := by decide +kernel
theorem dX8_homeFraction_95 : decode cX8_homeFraction 95 = .ok (.ifCond .ne 36, 3) := by decide +kernel
theorem dX8_homeFraction_98 : decode cX8_homeFraction 98 = .ok (.lload 8, 2) := by decide +kernel
theorem dX8_homeFraction_100 : decode cX8_homeFraction 100 = .ok (.ldc2_w 23, 3) := by decide +kernel
theorem dX8_homeFraction_103 : decode cX8_homeFraction 103 = .ok (.lrem, 1) := by decide +kernel
theorem dX8_homeFraction_104 : decode cX8_homeFraction 104 = .ok (.lconst 0, 1) := by decide +kernel
theorem dX8_homeFraction_105 : decode cX8_homeFraction 105 = .ok (.lcmp, 1) := by decide +kernel
theorem dX8_homeFraction_106 : decode cX8_homeFraction 106 = .ok (.ifCond .ne 25, 3) := by decide +kernel
theorem dX8_homeFraction_109 : decode cX8_homeFraction 109 = .ok (.lload 4, 2) := by decide +kernel
theorem dX8_homeFraction_111 : decode cX8_homeFraction 111 = .ok (.ldc2_w 23, 3) := by decide +kernel
theorem dX8_homeFraction_114 : decode cX8_homeFraction 114 = .ok (.ldiv, 1) := by decide +kernel
theorem dX8_homeFraction_115 : decode cX8_homeFraction 115 = .ok (.lstore 4, 2) := by decide +kernel
theorem dX8_homeFraction_117 : decode cX8_homeFraction 117 = .ok (.lload 8, 2) := by decide +kernel
theorem dX8_homeFraction_119 : decode cX8_homeFraction 119 = .ok (.ldc2_w 23, 3) := by decide +kernel
theorem dX8_homeFraction_122 : decode cX8_homeFraction 122 = .ok (.ldiv, 1) := by decide +kernel
theorem dX8_homeFraction_123 : decode cX8_homeFraction 123 = .ok (.lstore 8, 2) := by decide +kernel
theorem dX8_homeFraction_125 : decode cX8_homeFraction 125 = .ok (.iinc 10 1, 3) := by decide +kernel
theorem dX8_homeFraction_128 : decode cX8_homeFraction 128 = .ok (.goto (-48), 3) := by decide +kernel
theorem dX8_homeFraction_131 : decode cX8_homeFraction 131 = .ok (.iload_n 3, 1) := by decide +kernel
theorem dX8_homeFraction_132 : decode cX8_homeFraction 132 = .ok (.ifCond .ne 8, 3) := by decide +kernel
theorem dX8_homeFraction_135 : decode cX8_homeFraction 135 = .ok (.lload 4, 2) := by decide +kernel
theorem dX8_homeFraction_137 : decode cX8_homeFraction 137 = .ok (.goto 5, 3) := by decide +kernel
theorem dX8_homeFraction_140 : decode cX8_homeFraction 140 = .ok (.lload 8, 2) := by decide +kernel
theorem dX8_homeFraction_142 : decode cX8_homeFraction 142 = .ok (.lreturn, 1) := by decide +kernel
theorem dX8_power_0 : decode cX8_power 0 = .ok (.lconst 1, 1) := by decide +kernel
theorem dX8_power_1 : decode cX8_power 1 = .ok (.lstore_n 2, 1) := by decide +kernel
theorem dX8_power_2 : decode cX8_power 2 = .ok (.iconst 0, 1) := by decide +kernel
theorem dX8_power_3 : decode cX8_power 3 = .ok (.istore 4, 2) := by decide +kernel
theorem dX8_power_5 : decode cX8_power 5 = .ok (.iload 4, 2) := by decide +kernel
theorem dX8_power_7 : decode cX8_power 7 = .ok (.iload_n 1, 1) := by decide +kernel
theorem dX8_power_8 : decode cX8_power 8 = .ok (.if_icmp .ge 14, 3) := by decide +kernel
theorem dX8_power_11 : decode cX8_power 11 = .ok (.lload_n 2, 1) := by decide +kernel
theorem dX8_power_12 : decode cX8_power 12 = .ok (.iload_n 0, 1) := by decide +kernel
theorem dX8_power_13 : decode cX8_power 13 = .ok (.i2l, 1) := by decide +kernel
theorem dX8_power_14 : decode cX8_power 14 = .ok (.lmul, 1) := by decide +kernel
theorem dX8_power_15 : decode cX8_power 15 = .ok (.lstore_n 2, 1) := by decide +kernel
theorem dX8_power_16 : decode cX8_power 16 = .ok (.iinc 4 1, 3) := by decide +kernel
theorem dX8_power_19 : decode cX8_power 19 = .ok (.goto (-14), 3) := by decide +kernel
theorem dX8_power_22 : decode cX8_power 22 = .ok (.lload_n 2, 1) := by decide +kernel
theorem dX8_power_23 : decode cX8_power 23 = .ok (.lreturn, 1) := by decide +kernel
theorem dX9_init_0 : decode cX9_init 0 = .ok (.aload_n 0, 1) := by decide +kernel
theorem dX9_init_1 : decode cX9_init 1 = .ok (.invokespecial 3, 3) := by decide +kernel
theorem dX9_init_4 : decode cX9_init 4 = .ok (.aload_n 0, 1) := by decide +kernel
theorem dX9_init_5 : decode cX9_init 5 = .ok (.bipush 13, 2) := by decide +kernel
theorem dX9_init_7 : decode cX9_init 7 = .ok (.newarray .int, 2) := by decide +kernel
theorem dX9_init_9 : decode cX9_init 9 = .ok (.putfield 9, 3) := by decide +kernel
theorem dX9_init_12 : decode cX9_init 12 = .ok (.aload_n 0, 1) := by decide +kernel
theorem dX9_init_13 : decode cX9_init 13 = .ok (.sipush 1300, 3) := by decide +kernel
theorem dX9_init_16 : decode cX9_init 16 = .ok (.newarray .int, 2) := by decide +kernel
theorem dX9_init_18 : decode cX9_init 18 = .ok (.putfield 15, 3) := by decide +kernel
theorem dX9_init_21 : decode cX9_init 21 = .ok (.aload_n 0, 1) := by decide +kernel
theorem dX9_init_22 : decode cX9_init 22 = .ok (.iconst 0, 1) := by decide +kernel
theorem dX9_init_23 : decode cX9_init 23 = .ok (.putfield 18, 3) := by decide +kernel
theorem dX9_init_26 : decode cX9_init 26 = .ok (.aload_n 0, 1) := by decide +kernel
theorem dX9_init_27 : decode cX9_init 27 = .ok (.iconst (-1), 1) := by decide +kernel
theorem dX9_init_28 : decode cX9_init 28 = .ok (.putfield 22, 3) := by decide +kernel
theorem dX9_init_31 : decode cX9_init 31 = .ok (.aload_n 0, 1) := by decide +kernel
theorem dX9_init_32 : decode cX9_init 32 = .ok (.iconst (-1), 1) := by decide +kernel
theorem dX9_init_33 : decode cX9_init 33 = .ok (.putfield 25, 3) := by decide +kernel
theorem dX9_init_36 : decode cX9_init 36 = .ok (.aload_n 0, 1) := by decide +kernel
theorem dX9_init_37 : decode cX9_init 37 = .ok (.iconst 0, 1) := by decide +kernel
theorem dX9_init_38 : decode cX9_init 38 = .ok (.putfield 28, 3) := by decide +kernel
theorem dX9_init_41 : decode cX9_init 41 = .ok (.aload_n 0, 1) := by decide +kernel
theorem dX9_init_42 : decode cX9_init 42 = .ok (.aload_n 1, 1) := by decide +kernel
theorem dX9_init_43 : decode cX9_init 43 = .ok (.putfield 31, 3) := by decide +kernel
theorem dX9_init_46 : decode cX9_init 46 = .ok (.aload_n 0, 1) := by decide +kernel
theorem dX9_init_47 : decode cX9_init 47 = .ok (.aload_n 2, 1) := by decide +kernel
theorem dX9_init_48 : decode cX9_init 48 = .ok (.putfield 35, 3) := by decide +kernel
theorem dX9_init_51 : decode cX9_init 51 = .ok (.aload_n 0, 1) := by decide +kernel
theorem dX9_init_52 : decode cX9_init 52 = .ok (.aload_n 3, 1) := by decide +kernel
theorem dX9_init_53 : decode cX9_init 53 = .ok (.putfield 38, 3) := by decide +kernel
theorem dX9_init_56 : decode cX9_init 56 = .ok (.return_, 1) := by decide +kernel
theorem dX9_search_0 : decode cX9_search 0 = .ok (.aload_n 0, 1) := by decide +kernel
theorem dX9_search_1 : decode cX9_search 1 = .ok (.iconst 0, 1) := by decide +kernel
theorem dX9_search_2 : decode cX9_search 2 = .ok (.putfield 18, 3) := by decide +kernel
theorem dX9_search_5 : decode cX9_search 5 = .ok (.aload_n 0, 1) := by decide +kernel
theorem dX9_search_6 : decode cX9_search 6 = .ok (.iconst (-1), 1) := by decide +kernel
theorem dX9_search_7 : decode cX9_search 7 = .ok (.putfield 22, 3) := by decide +kernel
theorem dX9_search_10 : decode cX9_search 10 = .ok (.aload_n 0, 1) := by decide +kernel
theorem dX9_search_11 : decode cX9_search 11 = .ok (.getfield 38, 3) := by decide +kernel
theorem dX9_search_14 : decode cX9_search 14 = .ok (.invokevirtual 42, 3) := by decide +kernel
theorem dX9_search_17 : decode cX9_search 17 = .ok (.istore_n 2, 1) := by decide +kernel
theorem dX9_search_18 : decode cX9_search 18 = .ok (.iconst 0, 1) := by decide +kernel
theorem dX9_search_19 : decode cX9_search 19 = .ok (.istore_n 3, 1) := by decide +kernel
theorem dX9_search_20 : decode cX9_search 20 = .ok (.iload_n 3, 1) := by decide +kernel
theorem dX9_search_21 : decode cX9_search 21 = .ok (.bipush 6, 2) := by decide +kernel
theorem dX9_search_23 : decode cX9_search 23 = .ok (.if_icmp .ge 73, 3) := by decide +kernel
theorem dX9_search_26 : decode cX9_search 26 = .ok (.iconst 1, 1) := by decide +kernel
theorem dX9_search_27 : decode cX9_search 27 = .ok (.istore 4, 2) := by decide +kernel
theorem dX9_search_29 : decode cX9_search 29 = .ok (.iload 4, 2) := by decide +kernel
theorem dX9_search_31 : decode cX9_search 31 = .ok (.bipush 30, 2) := by decide +kernel
theorem dX9_search_33 : decode cX9_search 33 = .ok (.if_icmp .gt 57, 3) := by decide +kernel
theorem dX9_search_36 : decode cX9_search 36 = .ok (.aload_n 0, 1) := by decide +kernel
theorem dX9_search_37 : decode cX9_search 37 = .ok (.iload_n 1, 1) := by decide +kernel
theorem dX9_search_38 : decode cX9_search 38 = .ok (.iload_n 3, 1) := by decide +kernel
theorem dX9_search_39 : decode cX9_search 39 = .ok (.iload 4, 2) := by decide +kernel
theorem dX9_search_41 : decode cX9_search 41 = .ok (.iload_n 2, 1) := by decide +kernel
theorem dX9_search_42 : decode cX9_search 42 = .ok (.invokevirtual 48, 3) := by decide +kernel
theorem dX9_search_45 : decode cX9_search 45 = .ok (.ifCond .eq 39, 3) := by decide +kernel
theorem dX9_search_48 : decode cX9_search 48 = .ok (.aload_n 0, 1) := by decide +kernel
theorem dX9_search_49 : decode cX9_search 49 = .ok (.dup, 1) := by decide +kernel
theorem dX9_search_50 : decode cX9_search 50 = .ok (.getfield 18, 3) := by decide +kernel
theorem dX9_search_53 : decode cX9_search 53 = .ok (.iconst 1, 1) := by decide +kernel
theorem dX9_search_54 : decode cX9_search 54 = .ok (.iadd, 1) := by decide +kernel
theorem dX9_search_55 : decode cX9_search 55 = .ok (.putfield 18, 3) := by decide +kernel
theorem dX9_search_58 : decode cX9_search 58 = .ok (.aload_n 0, 1) := by decide +kernel
theorem dX9_search_59 : decode cX9_search 59 = .ok (.aload_n 0, 1) := by decide +kernel
theorem dX9_search_60 : decode cX9_search 60 = .ok (.getfield 22, 3) := by decide +kernel
theorem dX9_search_63 : decode cX9_search 63 = .ok (.iconst (-1), 1) := by decide +kernel
theorem dX9_search_64 : decode cX9_search 64 = .ok (.if_icmp .ne 13, 3) := by decide +kernel
theorem dX9_search_67 : decode cX9_search 67 = .ok (.bipush 100, 2) := by decide +kernel
theorem dX9_search_69 : decode cX9_search 69 = .ok (.iload_n 3, 1) := by decide +kernel
theorem dX9_search_70 : decode cX9_search 70 = .ok (.imul, 1) := by decide +kernel
theorem dX9_search_71 : decode cX9_search 71 = .ok (.iload 4, 2) := by decide +kernel
theorem dX9_search_73 : decode cX9_search 73 = .ok (.iadd, 1) := by decide +kernel
theorem dX9_search_74 : decode cX9_search 74 = .ok (.goto 7, 3) := by decide +kernel
theorem dX9_search_77 : decode cX9_search 77 = .ok (.aload_n 0, 1) := by decide +kernel
theorem dX9_search_78 : decode cX9_search 78 = .ok (.getfield 22, 3) := by decide +kernel
theorem dX9_search_81 : decode cX9_search 81 = .ok (.putfield 22, 3) := by decide +kernel
theorem dX9_search_84 : decode cX9_search 84 = .ok (.iinc 4 1, 3) := by decide +kernel
theorem dX9_search_87 : decode cX9_search 87 = .ok (.goto (-58), 3) := by decide +kernel
theorem dX9_search_90 : decode cX9_search 90 = .ok (.iinc 3 1, 3) := by decide +kernel
theorem dX9_search_93 : decode cX9_search 93 = .ok (.goto (-73), 3) := by decide +kernel
theorem dX9_search_96 : decode cX9_search 96 = .ok (.return_, 1) := by decide +kernel
theorem dX9_fits_0 : decode cX9_fits 0 = .ok (.aload_n 0, 1) := by decide +kernel
theorem dX9_fits_1 : decode cX9_fits 1 = .ok (.getfield 35, 3) := by decide +kernel
theorem dX9_fits_4 : decode cX9_fits 4 = .ok (.aload_n 0, 1) := by decide +kernel
theorem dX9_fits_5 : decode cX9_fits 5 = .ok (.getfield 31, 3) := by decide +kernel
theorem dX9_fits_8 : decode cX9_fits 8 = .ok (.invokevirtual 52, 3) := by decide +kernel
theorem dX9_fits_11 : decode cX9_fits 11 = .ok (.aload_n 0, 1) := by decide +kernel
theorem dX9_fits_12 : decode cX9_fits 12 = .ok (.getfield 35, 3) := by decide +kernel
theorem dX9_fits_15 : decode cX9_fits 15 = .ok (.iload_n 1, 1) := by decide +kernel
theorem dX9_fits_16 : decode cX9_fits 16 = .ok (.invokevirtual 58, 3) := by decide +kernel
theorem dX9_fits_19 : decode cX9_fits 19 = .ok (.aload_n 0, 1) := by decide +kernel
theorem dX9_fits_20 : decode cX9_fits 20 = .ok (.getfield 35, 3) := by decide +kernel
theorem dX9_fits_23 : decode cX9_fits 23 = .ok (.iload_n 1, 1) := by decide +kernel
theorem dX9_fits_24 : decode cX9_fits 24 = .ok (.iload_n 2, 1) := by decide +kernel
theorem dX9_fits_25 : decode cX9_fits 25 = .ok (.iload_n 3, 1) := by decide +kernel
theorem dX9_fits_26 : decode cX9_fits 26 = .ok (.invokevirtual 62, 3) := by decide +kernel
theorem dX9_fits_29 : decode cX9_fits 29 = .ok (.iconst 1, 1) := by decide +kernel
theorem dX9_fits_30 : decode cX9_fits 30 = .ok (.istore 5, 2) := by decide +kernel
theorem dX9_fits_32 : decode cX9_fits 32 = .ok (.iload 5, 2) := by decide +kernel
theorem dX9_fits_34 : decode cX9_fits 34 = .ok (.iload 4, 2) := by decide +kernel
theorem dX9_fits_36 : decode cX9_fits 36 = .ok (.if_icmp .gt 59, 3) := by decide +kernel
theorem dX9_fits_39 : decode cX9_fits 39 = .ok (.iload 5, 2) := by decide +kernel
theorem dX9_fits_41 : decode cX9_fits 41 = .ok (.bipush 12, 2) := by decide +kernel
theorem dX9_fits_43 : decode cX9_fits 43 = .ok (.if_icmp .gt 52, 3) := by decide +kernel
theorem dX9_fits_46 : decode cX9_fits 46 = .ok (.aload_n 0, 1) := by decide +kernel
theorem dX9_fits_47 : decode cX9_fits 47 = .ok (.getfield 35, 3) := by decide +kernel
theorem dX9_fits_50 : decode cX9_fits 50 = .ok (.invokevirtual 66, 3) := by decide +kernel
theorem dX9_fits_53 : decode cX9_fits 53 = .ok (.aload_n 0, 1) := by decide +kernel
theorem dX9_fits_54 : decode cX9_fits 54 = .ok (.getfield 9, 3) := by decide +kernel
theorem dX9_fits_57 : decode cX9_fits 57 = .ok (.iload 5, 2) := by decide +kernel
theorem dX9_fits_59 : decode cX9_fits 59 = .ok (.aload_n 0, 1) := by decide +kernel
theorem dX9_fits_60 : decode cX9_fits 60 = .ok (.getfield 35, 3) := by decide +kernel
theorem dX9_fits_63 : decode cX9_fits 63 = .ok (.iload_n 1, 1) := by decide +kernel
theorem dX9_fits_64 : decode cX9_fits 64 = .ok (.invokevirtual 69, 3) := by decide +kernel
theorem dX9_fits_67 : decode cX9_fits 67 = .ok (.iastore, 1) := by decide +kernel
theorem dX9_fits_68 : decode cX9_fits 68 = .ok (.aload_n 0, 1) := by decide +kernel
theorem dX9_fits_69 : decode cX9_fits 69 = .ok (.getfield 38, 3) := by decide +kernel
theorem dX9_fits_72 : decode cX9_fits 72 = .ok (.iload 5, 2) := by decide +kernel
theorem dX9_fits_74 : decode cX9_fits 74 = .ok (.aload_n 0, 1) := by decide +kernel
theorem dX9_fits_75 : decode cX9_fits 75 = .ok (.getfield 9, 3) := by decide +kernel
theorem dX9_fits_78 : decode cX9_fits 78 = .ok (.iload 5, 2) := by decide +kernel
theorem dX9_fits_80 : decode cX9_fits 80 = .ok (.iaload, 1) := by decide +kernel
theorem dX9_fits_81 : decode cX9_fits 81 = .ok (.invokevirtual 73, 3) := by decide +kernel
theorem dX9_fits_84 : decode cX9_fits 84 = .ok (.ifCond .ne 5, 3) := by decide +kernel
theorem dX9_fits_87 : decode cX9_fits 87 = .ok (.iconst 0, 1) := by decide +kernel
theorem dX9_fits_88 : decode cX9_fits 88 = .ok (.ireturn, 1) := by decide +kernel
theorem dX9_fits_89 : decode cX9_fits 89 = .ok (.iinc 5 1, 3) := by decide +kernel
theorem dX9_fits_92 : decode cX9_fits 92 = .ok (.goto (-60), 3) := by decide +kernel
theorem dX9_fits_95 : decode cX9_fits 95 = .ok (.iconst 1, 1) := by decide +kernel
theorem dX9_fits_96 : decode cX9_fits 96 = .ok (.ireturn, 1) := by decide +kernel
theorem dX9_chooseDay_0 : decode cX9_chooseDay 0 = .ok (.aload_n 0, 1) := by decide +kernel
theorem dX9_chooseDay_1 : decode cX9_chooseDay 1 = .ok (.getfield 15, 3) := by decide +kernel
theorem dX9_chooseDay_4 : decode cX9_chooseDay 4 = .ok (.iconst 0, 1) := by decide +kernel
theorem dX9_chooseDay_5 : decode cX9_chooseDay 5 = .ok (.invokestatic 77, 3) := by decide +kernel
theorem dX9_chooseDay_8 : decode cX9_chooseDay 8 = .ok (.iconst 0, 1) := by decide +kernel
theorem dX9_chooseDay_9 : decode cX9_chooseDay 9 = .ok (.istore_n 2, 1) := by decide +kernel
theorem dX9_chooseDay_10 : decode cX9_chooseDay 10 = .ok (.iload_n 2, 1) := by decide +kernel
theorem dX9_chooseDay_11 : decode cX9_chooseDay 11 = .ok (.bipush 6, 2) := by decide +kernel
theorem dX9_chooseDay_13 : decode cX9_chooseDay 13 = .ok (.if_icmp .ge 39, 3) := by decide +kernel
theorem dX9_chooseDay_16 : decode cX9_chooseDay 16 = .ok (.iconst 1, 1) := by decide +kernel
theorem dX9_chooseDay_17 : decode cX9_chooseDay 17 = .ok (.istore_n 3, 1) := by decide +kernel
theorem dX9_chooseDay_18 : decode cX9_chooseDay 18 = .ok (.iload_n 3, 1) := by decide +kernel
theorem dX9_chooseDay_19 : decode cX9_chooseDay 19 = .ok (.bipush 30, 2) := by decide +kernel
theorem dX9_chooseDay_21 : decode cX9_chooseDay 21 = .ok (.if_icmp .gt 25, 3) := by decide +kernel
theorem dX9_chooseDay_24 : decode cX9_chooseDay 24 = .ok (.aload_n 0, 1) := by decide +kernel
theorem dX9_chooseDay_25 : decode cX9_chooseDay 25 = .ok (.iload_n 1, 1) := by decide +kernel
theorem dX9_chooseDay_26 : decode cX9_chooseDay 26 = .ok (.iload_n 2, 1) := by decide +kernel
theorem dX9_chooseDay_27 : decode cX9_chooseDay 27 = .ok (.iload_n 3, 1) := by decide +kernel
theorem dX9_chooseDay_28 : decode cX9_chooseDay 28 = .ok (.bipush 12, 2) := by decide +kernel
theorem dX9_chooseDay_30 : decode cX9_chooseDay 30 = .ok (.invokevirtual 48, 3) := by decide +kernel
theorem dX9_chooseDay_33 : decode cX9_chooseDay 33 = .ok (.ifCond .eq 7, 3) := by decide +kernel
theorem dX9_chooseDay_36 : decode cX9_chooseDay 36 = .ok (.aload_n 0, 1) := by decide +kernel
theorem dX9_chooseDay_37 : decode cX9_chooseDay 37 = .ok (.invokevirtual 83, 3) := by decide +kernel
theorem dX9_chooseDay_40 : decode cX9_chooseDay 40 = .ok (.iinc 3 1, 3) := by decide +kernel
theorem dX9_chooseDay_43 : decode cX9_chooseDay 43 = .ok (.goto (-25), 3) := by decide +kernel
theorem dX9_chooseDay_46 : decode cX9_chooseDay 46 = .ok (.iinc 2 1, 3) := by decide +kernel
theorem dX9_chooseDay_49 : decode cX9_chooseDay 49 = .ok (.goto (-39), 3) := by decide +kernel
theorem dX9_chooseDay_52 : decode cX9_chooseDay 52 = .ok (.aload_n 0, 1) := by decide +kernel
theorem dX9_chooseDay_53 : decode cX9_chooseDay 53 = .ok (.iconst (-1), 1) := by decide +kernel
theorem dX9_chooseDay_54 : decode cX9_chooseDay 54 = .ok (.putfield 25, 3) := by decide +kernel
theorem dX9_chooseDay_57 : decode cX9_chooseDay 57 = .ok (.iconst 1, 1) := by decide +kernel
theorem dX9_chooseDay_58 : decode cX9_chooseDay 58 = .ok (.istore_n 2, 1) := by decide +kernel
theorem dX9_chooseDay_59 : decode cX9_chooseDay 59 = .ok (.iload_n 2, 1) := by decide +kernel
theorem dX9_chooseDay_60 : decode cX9_chooseDay 60 = .ok (.bipush 12, 2) := by decide +kernel
theorem dX9_chooseDay_62 : decode cX9_chooseDay 62 = .ok (.if_icmp .gt 25, 3) := by decide +kernel
theorem dX9_chooseDay_65 : decode cX9_chooseDay 65 = .ok (.aload_n 0, 1) := by decide +kernel
theorem dX9_chooseDay_66 : decode cX9_chooseDay 66 = .ok (.getfield 38, 3) := by decide +kernel
theorem dX9_chooseDay_69 : decode cX9_chooseDay 69 = .ok (.iload_n 2, 1) := by decide +kernel
theorem dX9_chooseDay_70 : decode cX9_chooseDay 70 = .ok (.invokevirtual 86, 3) := by decide +kernel
theorem dX9_chooseDay_73 : decode cX9_chooseDay 73 = .ok (.ifCond .ne 8, 3) := by decide +kernel
theorem dX9_chooseDay_76 : decode cX9_chooseDay 76 = .ok (.aload_n 0, 1) := by decide +kernel
theorem dX9_chooseDay_77 : decode cX9_chooseDay 77 = .ok (.iload_n 2, 1) := by decide +kernel
theorem dX9_chooseDay_78 : decode cX9_chooseDay 78 = .ok (.invokevirtual 90, 3) := by decide +kernel
theorem dX9_chooseDay_81 : decode cX9_chooseDay 81 = .ok (.iinc 2 1, 3) := by decide +kernel
theorem dX9_chooseDay_84 : decode cX9_chooseDay 84 = .ok (.goto (-25), 3) := by decide +kernel
theorem dX9_chooseDay_87 : decode cX9_chooseDay 87 = .ok (.return_, 1) := by decide +kernel
theorem dX9_tally_0 : decode cX9_tally 0 = .ok (.iconst 1, 1) := by decide +kernel
theorem dX9_tally_1 : decode cX9_tally 1 = .ok (.istore_n 1, 1) := by decide +kernel
theorem dX9_tally_2 : decode cX9_tally 2 = .ok (.iload_n 1, 1) := by decide +kernel
theorem dX9_tally_3 : decode cX9_tally 3 = .ok (.bipush 12, 2) := by decide +kernel
theorem dX9_tally_5 : decode cX9_tally 5 = .ok (.if_icmp .gt 44, 3) := by decide +kernel
theorem dX9_tally_8 : decode cX9_tally 8 = .ok (.iload_n 1, 1) := by decide +kernel
theorem dX9_tally_9 : decode cX9_tally 9 = .ok (.bipush 100, 2) := by decide +kernel
theorem dX9_tally_11 : decode cX9_tally 11 = .ok (.imul, 1) := by decide +kernel
theorem dX9_tally_12 : decode cX9_tally 12 = .ok (.aload_n 0, 1) := by decide +kernel
theorem dX9_tally_13 : decode cX9_tally 13 = .ok (.getfield 9, 3) := by decide +kernel
theorem dX9_tally_16 : decode cX9_tally 16 = .ok (.iload_n 1, 1) := by decide +kernel
theorem dX9_tally_17 : decode cX9_tally 17 = .ok (.iaload, 1) := by decide +kernel
theorem dX9_tally_18 : decode cX9_tally 18 = .ok (.iadd, 1) := by decide +kernel
theorem dX9_tally_19 : decode cX9_tally 19 = .ok (.istore_n 2, 1) := by decide +kernel
theorem dX9_tally_20 : decode cX9_tally 20 = .ok (.iload_n 2, 1) := by decide +kernel
theorem dX9_tally_21 : decode cX9_tally 21 = .ok (.ifCond .lt 22, 3) := by decide +kernel
theorem dX9_tally_24 : decode cX9_tally 24 = .ok (.iload_n 2, 1) := by decide +kernel
theorem dX9_tally_25 : decode cX9_tally 25 = .ok (.aload_n 0, 1) := by decide +kernel
theorem dX9_tally_26 : decode cX9_tally 26 = .ok (.getfield 15, 3) := by decide +kernel
theorem dX9_tally_29 : decode cX9_tally 29 = .ok (.arraylength, 1) := by decide +kernel
theorem dX9_tally_30 : decode cX9_tally 30 = .ok (.if_icmp .ge 13, 3) := by decide +kernel
theorem dX9_tally_33 : decode cX9_tally 33 = .ok (.aload_n 0, 1) := by decide +kernel
theorem dX9_tally_34 : decode cX9_tally 34 = .ok (.getfield 15, 3) := by decide +kernel
theorem dX9_tally_37 : decode cX9_tally 37 = .ok (.iload_n 2, 1) := by decide +kernel
theorem dX9_tally_38 : decode cX9_tally 38 = .ok (.dup2, 1) := by decide +kernel
theorem dX9_tally_39 : decode cX9_tally 39 = .ok (.iaload, 1) := by decide +kernel
theorem dX9_tally_40 : decode cX9_tally 40 = .ok (.iconst 1, 1) := by decide +kernel
theorem dX9_tally_41 : decode cX9_tally 41 = .ok (.iadd, 1) := by decide +kernel
theorem dX9_tally_42 : decode cX9_tally 42 = .ok (.iastore, 1) := by decide +kernel
theorem dX9_tally_43 : decode cX9_tally 43 = .ok (.iinc 1 1, 3) := by decide +kernel
theorem dX9_tally_46 : decode cX9_tally 46 = .ok (.goto (-44), 3) := by decide +kernel
theorem dX9_tally_49 : decode cX9_tally 49 = .ok (.return_, 1) := by decide +kernel
theorem dX9_weighDay_0 : decode cX9_weighDay 0 = .ok (.iconst 0, 1) := by decide +kernel
theorem dX9_weighDay_1 : decode cX9_weighDay 1 = .ok (.istore_n 2, 1) := by decide +kernel
theorem dX9_weighDay_2 : decode cX9_weighDay 2 = .ok (.iconst 0, 1) := by decide +kernel
theorem dX9_weighDay_3 : decode cX9_weighDay 3 = .ok (.istore_n 3, 1) := by decide +kernel
theorem dX9_weighDay_4 : decode cX9_weighDay 4 = .ok (.iload_n 3, 1) := by decide +kernel
theorem dX9_weighDay_5 : decode cX9_weighDay 5 = .ok (.bipush 100, 2) := by decide +kernel
theorem dX9_weighDay_7 : decode cX9_weighDay 7 = .ok (.if_icmp .ge 44, 3) := by decide +kernel
theorem dX9_weighDay_10 : decode cX9_weighDay 10 = .ok (.iload_n 1, 1) := by decide +kernel
theorem dX9_weighDay_11 : decode cX9_weighDay 11 = .ok (.bipush 100, 2) := by decide +kernel
theorem dX9_weighDay_13 : decode cX9_weighDay 13 = .ok (.imul, 1) := by decide +kernel
theorem dX9_weighDay_14 : decode cX9_weighDay 14 = .ok (.iload_n 3, 1) := by decide +kernel
theorem dX9_weighDay_15 : decode cX9_weighDay 15 = .ok (.iadd, 1) := by decide +kernel
theorem dX9_weighDay_16 : decode cX9_weighDay 16 = .ok (.istore 4, 2) := by decide +kernel
theorem dX9_weighDay_18 : decode cX9_weighDay 18 = .ok (.iload 4, 2) := by decide +kernel
theorem dX9_weighDay_20 : decode cX9_weighDay 20 = .ok (.ifCond .lt 25, 3) := by decide +kernel
theorem dX9_weighDay_23 : decode cX9_weighDay 23 = .ok (.iload 4, 2) := by decide +kernel
theorem dX9_weighDay_25 : decode cX9_weighDay 25 = .ok (.aload_n 0, 1) := by decide +kernel
theorem dX9_weighDay_26 : decode cX9_weighDay 26 = .ok (.getfield 15, 3) := by decide +kernel
theorem dX9_weighDay_29 : decode cX9_weighDay 29 = .ok (.arraylength, 1) := by decide +kernel
theorem dX9_weighDay_30 : decode cX9_weighDay 30 = .ok (.if_icmp .ge 15, 3) := by decide +kernel
theorem dX9_weighDay_33 : decode cX9_weighDay 33 = .ok (.iload_n 2, 1) := by decide +kernel
theorem dX9_weighDay_34 : decode cX9_weighDay 34 = .ok (.aload_n 0, 1) := by decide +kernel
theorem dX9_weighDay_35 : decode cX9_weighDay 35 = .ok (.getfield 15, 3) := by decide +kernel
theorem dX9_weighDay_38 : decode cX9_weighDay 38 = .ok (.iload 4, 2) := by decide +kernel
theorem dX9_weighDay_40 : decode cX9_weighDay 40 = .ok (.iaload, 1) := by decide +kernel
theorem dX9_weighDay_41 : decode cX9_weighDay 41 = .ok (.invokestatic 93, 3) := by decide +kernel
theorem dX9_weighDay_44 : decode cX9_weighDay 44 = .ok (.istore_n 2, 1) := by decide +kernel
theorem dX9_weighDay_45 : decode cX9_weighDay 45 = .ok (.iinc 3 1, 3) := by decide +kernel
theorem dX9_weighDay_48 : decode cX9_weighDay 48 = .ok (.goto (-44), 3) := by decide +kernel
theorem dX9_weighDay_51 : decode cX9_weighDay 51 = .ok (.aload_n 0, 1) := by decide +kernel
theorem dX9_weighDay_52 : decode cX9_weighDay 52 = .ok (.getfield 25, 3) := by decide +kernel
theorem dX9_weighDay_55 : decode cX9_weighDay 55 = .ok (.iconst (-1), 1) := by decide +kernel
theorem dX9_weighDay_56 : decode cX9_weighDay 56 = .ok (.if_icmp .eq 11, 3) := by decide +kernel
theorem dX9_weighDay_59 : decode cX9_weighDay 59 = .ok (.iload_n 2, 1) := by decide +kernel
theorem dX9_weighDay_60 : decode cX9_weighDay 60 = .ok (.aload_n 0, 1) := by decide +kernel
theorem dX9_weighDay_61 : decode cX9_weighDay 61 = .ok (.getfield 28, 3) := by decide +kernel
theorem dX9_weighDay_64 : decode cX9_weighDay 64 = .ok (.if_icmp .ge 13, 3) := by decide +kernel
theorem dX9_weighDay_67 : decode cX9_weighDay 67 = .ok (.aload_n 0, 1) := by decide +kernel
theorem dX9_weighDay_68 : decode cX9_weighDay 68 = .ok (.iload_n 1, 1) := by decide +kernel
theorem dX9_weighDay_69 : decode cX9_weighDay 69 = .ok (.putfield 25, 3) := by decide +kernel
theorem dX9_weighDay_72 : decode cX9_weighDay 72 = .ok (.aload_n 0, 1) := by decide +kernel
theorem dX9_weighDay_73 : decode cX9_weighDay 73 = .ok (.iload_n 2, 1) := by decide +kernel
theorem dX9_weighDay_74 : decode cX9_weighDay 74 = .ok (.putfield 28, 3) := by decide +kernel
theorem dX9_weighDay_77 : decode cX9_weighDay 77 = .ok (.return_, 1) := by decide +kernel
theorem dX10_init_0 : decode cX10_init 0 = .ok (.aload_n 0, 1) := by decide +kernel
theorem dX10_init_1 : decode cX10_init 1 = .ok (.invokespecial 3, 3) := by decide +kernel
theorem dX10_init_4 : decode cX10_init 4 = .ok (.aload_n 0, 1) := by decide +kernel
theorem dX10_init_5 : decode cX10_init 5 = .ok (.sipush 600, 3) := by decide +kernel
theorem dX10_init_8 : decode cX10_init 8 = .ok (.newarray .byte, 2) := by decide +kernel
theorem dX10_init_10 : decode cX10_init 10 = .ok (.putfield 9, 3) := by decide +kernel
theorem dX10_init_13 : decode cX10_init 13 = .ok (.aload_n 0, 1) := by decide +kernel
theorem dX10_init_14 : decode cX10_init 14 = .ok (.iconst 0, 1) := by decide +kernel
theorem dX10_init_15 : decode cX10_init 15 = .ok (.putfield 15, 3) := by decide +kernel
theorem dX10_init_18 : decode cX10_init 18 = .ok (.aload_n 0, 1) := by decide +kernel
theorem dX10_init_19 : decode cX10_init 19 = .ok (.iconst 0, 1) := by decide +kernel
theorem dX10_init_20 : decode cX10_init 20 = .ok (.putfield 19, 3) := by decide +kernel
theorem dX10_init_23 : decode cX10_init 23 = .ok (.aload_n 0, 1) := by decide +kernel
theorem dX10_init_24 : decode cX10_init 24 = .ok (.iconst 0, 1) := by decide +kernel
theorem dX10_init_25 : decode cX10_init 25 = .ok (.putfield 22, 3) := by decide +kernel
theorem dX10_init_28 : decode cX10_init 28 = .ok (.aload_n 0, 1) := by decide +kernel
theorem dX10_init_29 : decode cX10_init 29 = .ok (.iconst 0, 1) := by decide +kernel
theorem dX10_init_30 : decode cX10_init 30 = .ok (.putfield 25, 3) := by decide +kernel
theorem dX10_init_33 : decode cX10_init 33 = .ok (.aload_n 0, 1) := by decide +kernel
theorem dX10_init_34 : decode cX10_init 34 = .ok (.iconst 0, 1) := by decide +kernel
theorem dX10_init_35 : decode cX10_init 35 = .ok (.putfield 28, 3) := by decide +kernel
theorem dX10_init_38 : decode cX10_init 38 = .ok (.aload_n 0, 1) := by decide +kernel
theorem dX10_init_39 : decode cX10_init 39 = .ok (.iconst (-1), 1) := by decide +kernel
theorem dX10_init_40 : decode cX10_init 40 = .ok (.putfield 31, 3) := by decide +kernel
theorem dX10_init_43 : decode cX10_init 43 = .ok (.return_, 1) := by decide +kernel
theorem dX10_hasRoom_0 : decode cX10_hasRoom 0 = .ok (.aload_n 0, 1) := by decide +kernel
theorem dX10_hasRoom_1 : decode cX10_hasRoom 1 = .ok (.getfield 15, 3) := by decide +kernel
theorem dX10_hasRoom_4 : decode cX10_hasRoom 4 = .ok (.bipush 20, 2) := by decide +kernel
theorem dX10_hasRoom_6 : decode cX10_hasRoom 6 = .ok (.iadd, 1) := by decide +kernel
theorem dX10_hasRoom_7 : decode cX10_hasRoom 7 = .ok (.sipush 600, 3) := by decide +kernel
theorem dX10_hasRoom_10 : decode cX10_hasRoom 10 = .ok (.if_icmp .gt 7, 3) := by decide +kernel
theorem dX10_hasRoom_13 : decode cX10_hasRoom 13 = .ok (.iconst 1, 1) := by decide +kernel
theorem dX10_hasRoom_14 : decode cX10_hasRoom 14 = .ok (.goto 4, 3) := by decide +kernel
theorem dX10_hasRoom_17 : decode cX10_hasRoom 17 = .ok (.iconst 0, 1) := by decide +kernel
theorem dX10_hasRoom_18 : decode cX10_hasRoom 18 = .ok (.ireturn, 1) := by decide +kernel
theorem dX10_put_0 : decode cX10_put 0 = .ok (.bipush 24, 2) := by decide +kernel
theorem dX10_put_2 : decode cX10_put 2 = .ok (.istore_n 2, 1) := by decide +kernel
theorem dX10_put_3 : decode cX10_put 3 = .ok (.iload_n 2, 1) := by decide +kernel
theorem dX10_put_4 : decode cX10_put 4 = .ok (.ifCond .lt 49, 3) := by decide +kernel
theorem dX10_put_7 : decode cX10_put 7 = .ok (.aload_n 0, 1) := by decide +kernel
theorem dX10_put_8 : decode cX10_put 8 = .ok (.getfield 15, 3) := by decide +kernel
theorem dX10_put_11 : decode cX10_put 11 = .ok (.ifCond .lt 36, 3) := by decide +kernel
theorem dX10_put_14 : decode cX10_put 14 = .ok (.aload_n 0, 1) := by decide +kernel
theorem dX10_put_15 : decode cX10_put 15 = .ok (.getfield 15, 3) := by decide +kernel
theorem dX10_put_18 : decode cX10_put 18 = .ok (.sipush 600, 3) := by decide +kernel
theorem dX10_put_21 : decode cX10_put 21 = .ok (.if_icmp .ge 26, 3) := by decide +kernel
theorem dX10_put_24 : decode cX10_put 24 = .ok (.aload_n 0, 1) := by decide +kernel
theorem dX10_put_25 : decode cX10_put 25 = .ok (.getfield 9, 3) := by decide +kernel
theorem dX10_put_28 : decode cX10_put 28 = .ok (.aload_n 0, 1) := by decide +kernel
theorem dX10_put_29 : decode cX10_put 29 = .ok (.getfield 15, 3) := by decide +kernel
theorem dX10_put_32 : decode cX10_put 32 = .ok (.iload_n 1, 1) := by decide +kernel
theorem dX10_put_33 : decode cX10_put 33 = .ok (.iload_n 2, 1) := by decide +kernel
theorem dX10_put_34 : decode cX10_put 34 = .ok (.ishr, 1) := by decide +kernel
theorem dX10_put_35 : decode cX10_put 35 = .ok (.i2b, 1) := by decide +kernel
theorem dX10_put_36 : decode cX10_put 36 = .ok (.bastore, 1) := by decide +kernel
theorem dX10_put_37 : decode cX10_put 37 = .ok (.aload_n 0, 1) := by decide +kernel
theorem dX10_put_38 : decode cX10_put 38 = .ok (.dup, 1) := by decide +kernel
theorem dX10_put_39 : decode cX10_put 39 = .ok (.getfield 15, 3) := by decide +kernel
theorem dX10_put_42 : decode cX10_put 42 = .ok (.iconst 1, 1) := by decide +kernel
theorem dX10_put_43 : decode cX10_put 43 = .ok (.iadd, 1) := by decide +kernel
theorem dX10_put_44 : decode cX10_put 44 = .ok (.putfield 15, 3) := by decide +kernel
theorem dX10_put_47 : decode cX10_put 47 = .ok (.iinc 2 (-8), 3) := by decide +kernel
theorem dX10_put_50 : decode cX10_put 50 = .ok (.goto (-47), 3) := by decide +kernel
theorem dX10_put_53 : decode cX10_put 53 = .ok (.return_, 1) := by decide +kernel
theorem dX10_open_0 : decode cX10_open 0 = .ok (.aload_n 0, 1) := by decide +kernel
theorem dX10_open_1 : decode cX10_open 1 = .ok (.iload_n 1, 1) := by decide +kernel
theorem dX10_open_2 : decode cX10_open 2 = .ok (.putfield 19, 3) := by decide +kernel
theorem dX10_open_5 : decode cX10_open 5 = .ok (.aload_n 0, 1) := by decide +kernel
theorem dX10_open_6 : decode cX10_open 6 = .ok (.iconst 0, 1) := by decide +kernel
theorem dX10_open_7 : decode cX10_open 7 = .ok (.putfield 15, 3) := by decide +kernel
theorem dX10_open_10 : decode cX10_open 10 = .ok (.aload_n 0, 1) := by decide +kernel
theorem dX10_open_11 : decode cX10_open 11 = .ok (.iconst 0, 1) := by decide +kernel
theorem dX10_open_12 : decode cX10_open 12 = .ok (.putfield 22, 3) := by decide +kernel
theorem dX10_open_15 : decode cX10_open 15 = .ok (.aload_n 0, 1) := by decide +kernel
theorem dX10_open_16 : decode cX10_open 16 = .ok (.iconst 0, 1) := by decide +kernel
theorem dX10_open_17 : decode cX10_open 17 = .ok (.putfield 25, 3) := by decide +kernel
theorem dX10_open_20 : decode cX10_open 20 = .ok (.aload_n 0, 1) := by decide +kernel
theorem dX10_open_21 : decode cX10_open 21 = .ok (.iconst 0, 1) := by decide +kernel
theorem dX10_open_22 : decode cX10_open 22 = .ok (.putfield 28, 3) := by decide +kernel
theorem dX10_open_25 : decode cX10_open 25 = .ok (.aload_n 0, 1) := by decide +kernel
theorem dX10_open_26 : decode cX10_open 26 = .ok (.iconst (-1), 1) := by decide +kernel
theorem dX10_open_27 : decode cX10_open 27 = .ok (.putfield 31, 3) := by decide +kernel
theorem dX10_open_30 : decode cX10_open 30 = .ok (.return_, 1) := by decide +kernel
theorem dX10_faultAnswer_0 : decode cX10_faultAnswer 0 = .ok (.aload_n 0, 1) := by decide +kernel
theorem dX10_faultAnswer_1 : decode cX10_faultAnswer 1 = .ok (.getfield 28, 3) := by decide +kernel
theorem dX10_faultAnswer_4 : decode cX10_faultAnswer 4 = .ok (.bipush 10, 2) := by decide +kernel
theorem dX10_faultAnswer_6 : decode cX10_faultAnswer 6 = .ok (.isub, 1) := by decide +kernel
theorem dX10_faultAnswer_7 : decode cX10_faultAnswer 7 = .ok (.ireturn, 1) := by decide +kernel
theorem dX10_fail_0 : decode cX10_fail 0 = .ok (.aload_n 0, 1) := by decide +kernel
theorem dX10_fail_1 : decode cX10_fail 1 = .ok (.iload_n 1, 1) := by decide +kernel
theorem dX10_fail_2 : decode cX10_fail 2 = .ok (.putfield 28, 3) := by decide +kernel
theorem dX10_fail_5 : decode cX10_fail 5 = .ok (.aload_n 0, 1) := by decide +kernel
theorem dX10_fail_6 : decode cX10_fail 6 = .ok (.aload_n 0, 1) := by decide +kernel
theorem dX10_fail_7 : decode cX10_fail 7 = .ok (.getfield 25, 3) := by decide +kernel
theorem dX10_fail_10 : decode cX10_fail 10 = .ok (.putfield 31, 3) := by decide +kernel
theorem dX10_fail_13 : decode cX10_fail 13 = .ok (.iconst 0, 1) := by decide +kernel
theorem dX10_fail_14 : decode cX10_fail 14 = .ok (.ireturn, 1) := by decide +kernel
theorem dX10_byteAt_0 : decode cX10_byteAt 0 = .ok (.iload_n 1, 1) := by decide +kernel
theorem dX10_byteAt_1 : decode cX10_byteAt 1 = .ok (.ifCond .lt 27, 3) := by decide +kernel
theorem dX10_byteAt_4 : decode cX10_byteAt 4 = .ok (.iload_n 1, 1) := by decide +kernel
theorem dX10_byteAt_5 : decode cX10_byteAt 5 = .ok (.aload_n 0, 1) := by decide +kernel
theorem dX10_byteAt_6 : decode cX10_byteAt 6 = .ok (.getfield 19, 3) := by decide +kernel
theorem dX10_byteAt_9 : decode cX10_byteAt 9 = .ok (.if_icmp .ge 19, 3) := by decide +kernel
theorem dX10_byteAt_12 : decode cX10_byteAt 12 = .ok (.iload_n 1, 1) := by decide +kernel
theorem dX10_byteAt_13 : decode cX10_byteAt 13 = .ok (.sipush 600, 3) := by decide +kernel
theorem dX10_byteAt_16 : decode cX10_byteAt 16 = .ok (.if_icmp .ge 12, 3) := by decide +kernel
theorem dX10_byteAt_19 : decode cX10_byteAt 19 = .ok (.aload_n 0, 1) := by decide +kernel
theorem dX10_byteAt_20 : decode cX10_byteAt 20 = .ok (.getfield 9, 3) := by decide +kernel
theorem dX10_byteAt_23 : decode cX10_byteAt 23 = .ok (.iload_n 1, 1) := by decide +kernel
theorem dX10_byteAt_24 : decode cX10_byteAt 24 = .ok (.baload, 1) := by decide +kernel
theorem dX10_byteAt_25 : decode cX10_byteAt 25 = .ok (.goto 4, 3) := by decide +kernel
theorem dX10_byteAt_28 : decode cX10_byteAt 28 = .ok (.iconst (-1), 1) := by decide +kernel
theorem dX10_byteAt_29 : decode cX10_byteAt 29 = .ok (.ireturn, 1) := by decide +kernel
theorem dX10_startToken_0 : decode cX10_startToken 0 = .ok (.aload_n 0, 1) := by decide +kernel
theorem dX10_startToken_1 : decode cX10_startToken 1 = .ok (.getfield 22, 3) := by decide +kernel
theorem dX10_startToken_4 : decode cX10_startToken 4 = .ok (.istore_n 1, 1) := by decide +kernel
theorem dX10_startToken_5 : decode cX10_startToken 5 = .ok (.iload_n 1, 1) := by decide +kernel
theorem dX10_startToken_6 : decode cX10_startToken 6 = .ok (.ifCond .lt 42, 3) := by decide +kernel
theorem dX10_startToken_9 : decode cX10_startToken 9 = .ok (.iload_n 1, 1) := by decide +kernel
theorem dX10_startToken_10 : decode cX10_startToken 10 = .ok (.aload_n 0, 1) := by decide +kernel
theorem dX10_startToken_11 : decode cX10_startToken 11 = .ok (.getfield 19, 3) := by decide +kernel
theorem dX10_startToken_14 : decode cX10_startToken 14 = .ok (.if_icmp .ge 34, 3) := by decide +kernel
theorem dX10_startToken_17 : decode cX10_startToken 17 = .ok (.iload_n 1, 1) := by decide +kernel
theorem dX10_startToken_18 : decode cX10_startToken 18 = .ok (.sipush 600, 3) := by decide +kernel
theorem dX10_startToken_21 : decode cX10_startToken 21 = .ok (.if_icmp .ge 27, 3) := by decide +kernel
theorem dX10_startToken_24 : decode cX10_startToken 24 = .ok (.aload_n 0, 1) := by decide +kernel
theorem dX10_startToken_25 : decode cX10_startToken 25 = .ok (.getfield 9, 3) := by decide +kernel
theorem dX10_startToken_28 : decode cX10_startToken 28 = .ok (.iload_n 1, 1) := by decide +kernel
theorem dX10_startToken_29 : decode cX10_startToken 29 = .ok (.baload, 1) := by decide +kernel
theorem dX10_startToken_30 : decode cX10_startToken 30 = .ok (.bipush 32, 2) := by decide +kernel
theorem dX10_startToken_32 : decode cX10_startToken 32 = .ok (.if_icmp .ne 16, 3) := by decide +kernel
theorem dX10_startToken_35 : decode cX10_startToken 35 = .ok (.aload_n 0, 1) := by decide +kernel
theorem dX10_startToken_36 : decode cX10_startToken 36 = .ok (.iload_n 1, 1) := by decide +kernel
theorem dX10_startToken_37 : decode cX10_startToken 37 = .ok (.iconst 1, 1) := by decide +kernel
theorem dX10_startToken_38 : decode cX10_startToken 38 = .ok (.iadd, 1) := by decide +kernel
theorem dX10_startToken_39 : decode cX10_startToken 39 = .ok (.putfield 22, 3) := by decide +kernel
theorem dX10_startToken_42 : decode cX10_startToken 42 = .ok (.iinc 1 1, 3) := by decide +kernel
theorem dX10_startToken_45 : decode cX10_startToken 45 = .ok (.goto (-40), 3) := by decide +kernel
theorem dX10_startToken_48 : decode cX10_startToken 48 = .ok (.aload_n 0, 1) := by decide +kernel
theorem dX10_startToken_49 : decode cX10_startToken 49 = .ok (.aload_n 0, 1) := by decide +kernel
theorem dX10_startToken_50 : decode cX10_startToken 50 = .ok (.getfield 22, 3) := by decide +kernel
theorem dX10_startToken_53 : decode cX10_startToken 53 = .ok (.putfield 25, 3) := by decide +kernel
theorem dX10_startToken_56 : decode cX10_startToken 56 = .ok (.return_, 1) := by decide +kernel
theorem dX10_ended_0 : decode cX10_ended 0 = .ok (.aload_n 0, 1) := by decide +kernel
theorem dX10_ended_1 : decode cX10_ended 1 = .ok (.invokevirtual 34, 3) := by decide +kernel
theorem dX10_ended_4 : decode cX10_ended 4 = .ok (.aload_n 0, 1) := by decide +kernel
theorem dX10_ended_5 : decode cX10_ended 5 = .ok (.getfield 22, 3) := by decide +kernel
theorem dX10_ended_8 : decode cX10_ended 8 = .ok (.aload_n 0, 1) := by decide +kernel
theorem dX10_ended_9 : decode cX10_ended 9 = .ok (.getfield 19, 3) := by decide +kernel
theorem dX10_ended_12 : decode cX10_ended 12 = .ok (.if_icmp .lt 7, 3) := by decide +kernel
theorem dX10_ended_15 : decode cX10_ended 15 = .ok (.iconst 1, 1) := by decide +kernel
theorem dX10_ended_16 : decode cX10_ended 16 = .ok (.goto 4, 3) := by decide +kernel
theorem dX10_ended_19 : decode cX10_ended 19 = .ok (.iconst 0, 1) := by decide +kernel
theorem dX10_ended_20 : decode cX10_ended 20 = .ok (.ireturn, 1) := by decide +kernel
theorem dX10_passes_0 : decode cX10_passes 0 = .ok (.aload_n 0, 1) := by decide +kernel
theorem dX10_passes_1 : decode cX10_passes 1 = .ok (.invokevirtual 34, 3) := by decide +kernel
theorem dX10_passes_4 : decode cX10_passes 4 = .ok (.aload_n 0, 1) := by decide +kernel
theorem dX10_passes_5 : decode cX10_passes 5 = .ok (.aload_n 0, 1) := by decide +kernel
theorem dX10_passes_6 : decode cX10_passes 6 = .ok (.getfield 22, 3) := by decide +kernel
theorem dX10_passes_9 : decode cX10_passes 9 = .ok (.invokevirtual 37, 3) := by decide +kernel
theorem dX10_passes_12 : decode cX10_passes 12 = .ok (.iload_n 1, 1) := by decide +kernel
theorem dX10_passes_13 : decode cX10_passes 13 = .ok (.if_icmp .eq 5, 3) := by decide +kernel
theorem dX10_passes_16 : decode cX10_passes 16 = .ok (.iconst 0, 1) := by decide +kernel
theorem dX10_passes_17 : decode cX10_passes 17 = .ok (.ireturn, 1) := by decide +kernel
theorem dX10_passes_18 : decode cX10_passes 18 = .ok (.aload_n 0, 1) := by decide +kernel
theorem dX10_passes_19 : decode cX10_passes 19 = .ok (.dup, 1) := by decide +kernel
theorem dX10_passes_20 : decode cX10_passes 20 = .ok (.getfield 22, 3) := by decide +kernel
theorem dX10_passes_23 : decode cX10_passes 23 = .ok (.iconst 1, 1) := by decide +kernel
theorem dX10_passes_24 : decode cX10_passes 24 = .ok (.iadd, 1) := by decide +kernel
theorem dX10_passes_25 : decode cX10_passes 25 = .ok (.putfield 22, 3) := by decide +kernel
theorem dX10_passes_28 : decode cX10_passes 28 = .ok (.iconst 1, 1) := by decide +kernel
theorem dX10_passes_29 : decode cX10_passes 29 = .ok (.ireturn, 1) := by decide +kernel
theorem dX10_expects_0 : decode cX10_expects 0 = .ok (.aload_n 0, 1) := by decide +kernel
theorem dX10_expects_1 : decode cX10_expects 1 = .ok (.invokevirtual 34, 3) := by decide +kernel
theorem dX10_expects_4 : decode cX10_expects 4 = .ok (.aload_n 0, 1) := by decide +kernel
theorem dX10_expects_5 : decode cX10_expects 5 = .ok (.aload_n 0, 1) := by decide +kernel
theorem dX10_expects_6 : decode cX10_expects 6 = .ok (.getfield 22, 3) := by decide +kernel
theorem dX10_expects_9 : decode cX10_expects 9 = .ok (.invokevirtual 37, 3) := by decide +kernel
theorem dX10_expects_12 : decode cX10_expects 12 = .ok (.iload_n 1, 1) := by decide +kernel
theorem dX10_expects_13 : decode cX10_expects 13 = .ok (.if_icmp .eq 9, 3) := by decide +kernel
theorem dX10_expects_16 : decode cX10_expects 16 = .ok (.aload_n 0, 1) := by decide +kernel
theorem dX10_expects_17 : decode cX10_expects 17 = .ok (.iconst 1, 1) := by decide +kernel
theorem dX10_expects_18 : decode cX10_expects 18 = .ok (.invokevirtual 41, 3) := by decide +kernel
theorem dX10_expects_21 : decode cX10_expects 21 = .ok (.ireturn, 1) := by decide +kernel
theorem dX10_expects_22 : decode cX10_expects 22 = .ok (.aload_n 0, 1) := by decide +kernel
theorem dX10_expects_23 : decode cX10_expects 23 = .ok (.dup, 1) := by decide +kernel
theorem dX10_expects_24 : decode cX10_expects 24 = .ok (.getfield 22, 3) := by decide +kernel
theorem dX10_expects_27 : decode cX10_expects 27 = .ok (.iconst 1, 1) := by decide +kernel
theorem dX10_expects_28 : decode cX10_expects 28 = .ok (.iadd, 1) := by decide +kernel
theorem dX10_expects_29 : decode cX10_expects 29 = .ok (.putfield 22, 3) := by decide +kernel
theorem dX10_expects_32 : decode cX10_expects 32 = .ok (.iconst 1, 1) := by decide +kernel
theorem dX10_expects_33 : decode cX10_expects 33 = .ok (.ireturn, 1) := by decide +kernel
theorem dX10_passesWord_0 : decode cX10_passesWord 0 = .ok (.aload_n 0, 1) := by decide +kernel
theorem dX10_passesWord_1 : decode cX10_passesWord 1 = .ok (.invokevirtual 34, 3) := by decide +kernel
theorem dX10_passesWord_4 : decode cX10_passesWord 4 = .ok (.aload_n 1, 1) := by decide +kernel
theorem dX10_passesWord_5 : decode cX10_passesWord 5 = .ok (.invokevirtual 45, 3) := by decide +kernel
theorem dX10_passesWord_8 : decode cX10_passesWord 8 = .ok (.istore_n 2, 1) := by decide +kernel
theorem dX10_passesWord_9 : decode cX10_passesWord 9 = .ok (.iconst 0, 1) := by decide +kernel
theorem dX10_passesWord_10 : decode cX10_passesWord 10 = .ok (.istore_n 3, 1) := by decide +kernel
theorem dX10_passesWord_11 : decode cX10_passesWord 11 = .ok (.iload_n 3, 1) := by decide +kernel
theorem dX10_passesWord_12 : decode cX10_passesWord 12 = .ok (.iload_n 2, 1) := by decide +kernel
theorem dX10_passesWord_13 : decode cX10_passesWord 13 = .ok (.if_icmp .ge 29, 3) := by decide +kernel
theorem dX10_passesWord_16 : decode cX10_passesWord 16 = .ok (.aload_n 0, 1) := by decide +kernel
theorem dX10_passesWord_17 : decode cX10_passesWord 17 = .ok (.aload_n 0, 1) := by decide +kernel
theorem dX10_passesWord_18 : decode cX10_passesWord 18 = .ok (.getfield 22, 3) := by decide +kernel
theorem dX10_passesWord_21 : decode cX10_passesWord 21 = .ok (.iload_n 3, 1) := by decide +kernel
theorem dX10_passesWord_22 : decode cX10_passesWord 22 = .ok (.iadd, 1) := by decide +kernel
theorem dX10_passesWord_23 : decode cX10_passesWord 23 = .ok (.invokevirtual 37, 3) := by decide +kernel
theorem dX10_passesWord_26 : decode cX10_passesWord 26 = .ok (.aload_n 1, 1) := by decide +kernel
theorem dX10_passesWord_27 : decode cX10_passesWord 27 = .ok (.iload_n 3, 1) := by decide +kernel
theorem dX10_passesWord_28 : decode cX10_passesWord 28 = .ok (.invokevirtual 50, 3) := by decide +kernel
theorem dX10_passesWord_31 : decode cX10_passesWord 31 = .ok (.if_icmp .eq 5, 3) := by decide +kernel
theorem dX10_passesWord_34 : decode cX10_passesWord 34 = .ok (.iconst 0, 1) := by decide +kernel
theorem dX10_passesWord_35 : decode cX10_passesWord 35 = .ok (.ireturn, 1) := by decide +kernel
theorem dX10_passesWord_36 : decode cX10_passesWord 36 = .ok (.iinc 3 1, 3) := by decide +kernel
theorem dX10_passesWord_39 : decode cX10_passesWord 39 = .ok (.goto (-28), 3) := by decide +kernel
theorem dX10_passesWord_42 : decode cX10_passesWord 42 = .ok (.aload_n 0, 1) := by decide +kernel
theorem dX10_passesWord_43 : decode cX10_passesWord 43 = .ok (.aload_n 0, 1) := by decide +kernel
theorem dX10_passesWord_44 : decode cX10_passesWord 44 = .ok (.getfield 22, 3) := by decide +kernel
theorem dX10_passesWord_47 : decode cX10_passesWord 47 = .ok (.iload_n 2, 1) := by decide +kernel
theorem dX10_passesWord_48 : decode cX10_passesWord 48 = .ok (.iadd, 1) := by decide +kernel
theorem dX10_passesWord_49 : decode cX10_passesWord 49 = .ok (.invokevirtual 37, 3) := by decide +kernel
theorem dX10_passesWord_52 : decode cX10_passesWord 52 = .ok (.invokestatic 54, 3) := by decide +kernel
theorem dX10_passesWord_55 : decode cX10_passesWord 55 = .ok (.ifCond .eq 5, 3) := by decide +kernel
theorem dX10_passesWord_58 : decode cX10_passesWord 58 = .ok (.iconst 0, 1) := by decide +kernel
theorem dX10_passesWord_59 : decode cX10_passesWord 59 = .ok (.ireturn, 1) := by decide +kernel
theorem dX10_passesWord_60 : decode cX10_passesWord 60 = .ok (.aload_n 0, 1) := by decide +kernel
theorem dX10_passesWord_61 : decode cX10_passesWord 61 = .ok (.dup, 1) := by decide +kernel
theorem dX10_passesWord_62 : decode cX10_passesWord 62 = .ok (.getfield 22, 3) := by decide +kernel
theorem dX10_passesWord_65 : decode cX10_passesWord 65 = .ok (.iload_n 2, 1) := by decide +kernel
theorem dX10_passesWord_66 : decode cX10_passesWord 66 = .ok (.iadd, 1) := by decide +kernel
theorem dX10_passesWord_67 : decode cX10_passesWord 67 = .ok (.putfield 22, 3) := by decide +kernel
theorem dX10_passesWord_70 : decode cX10_passesWord 70 = .ok (.iconst 1, 1) := by decide +kernel
theorem dX10_passesWord_71 : decode cX10_passesWord 71 = .ok (.ireturn, 1) := by decide +kernel
theorem dX10_isLetter_0 : decode cX10_isLetter 0 = .ok (.iload_n 0, 1) := by decide +kernel
theorem dX10_isLetter_1 : decode cX10_isLetter 1 = .ok (.bipush 97, 2) := by decide +kernel
theorem dX10_isLetter_3 : decode cX10_isLetter 3 = .ok (.if_icmp .lt 13, 3) := by decide +kernel
theorem dX10_isLetter_6 : decode cX10_isLetter 6 = .ok (.iload_n 0, 1) := by decide +kernel
theorem dX10_isLetter_7 : decode cX10_isLetter 7 = .ok (.bipush 122, 2) := by decide +kernel
theorem dX10_isLetter_9 : decode cX10_isLetter 9 = .ok (.if_icmp .gt 7, 3) := by decide +kernel
theorem dX10_isLetter_12 : decode cX10_isLetter 12 = .ok (.iconst 1, 1) := by decide +kernel
theorem dX10_isLetter_13 : decode cX10_isLetter 13 = .ok (.goto 4, 3) := by decide +kernel
theorem dX10_isLetter_16 : decode cX10_isLetter 16 = .ok (.iconst 0, 1) := by decide +kernel
theorem dX10_isLetter_17 : decode cX10_isLetter 17 = .ok (.ireturn, 1) := by decide +kernel
theorem dX10_isDigit_0 : decode cX10_isDigit 0 = .ok (.iload_n 0, 1) := by decide +kernel
theorem dX10_isDigit_1 : decode cX10_isDigit 1 = .ok (.bipush 48, 2) := by decide +kernel
theorem dX10_isDigit_3 : decode cX10_isDigit 3 = .ok (.if_icmp .lt 13, 3) := by decide +kernel
theorem dX10_isDigit_6 : decode cX10_isDigit 6 = .ok (.iload_n 0, 1) := by decide +kernel
theorem dX10_isDigit_7 : decode cX10_isDigit 7 = .ok (.bipush 57, 2) := by decide +kernel
theorem dX10_isDigit_9 : decode cX10_isDigit 9 = .ok (.if_icmp .gt 7, 3) := by decide +kernel
theorem dX10_isDigit_12 : decode cX10_isDigit 12 = .ok (.iconst 1, 1) := by decide +kernel
theorem dX10_isDigit_13 : decode cX10_isDigit 13 = .ok (.goto 4, 3) := by decide +kernel
theorem dX10_isDigit_16 : decode cX10_isDigit 16 = .ok (.iconst 0, 1) := by decide +kernel
theorem dX10_isDigit_17 : decode cX10_isDigit 17 = .ok (.ireturn, 1) := by decide +kernel
theorem dX10_atNumber_0 : decode cX10_atNumber 0 = .ok (.aload_n 0, 1) := by decide +kernel
theorem dX10_atNumber_1 : decode cX10_atNumber 1 = .ok (.invokevirtual 34, 3) := by decide +kernel
theorem dX10_atNumber_4 : decode cX10_atNumber 4 = .ok (.aload_n 0, 1) := by decide +kernel
theorem dX10_atNumber_5 : decode cX10_atNumber 5 = .ok (.aload_n 0, 1) := by decide +kernel
theorem dX10_atNumber_6 : decode cX10_atNumber 6 = .ok (.getfield 22, 3) := by decide +kernel
theorem dX10_atNumber_9 : decode cX10_atNumber 9 = .ok (.invokevirtual 37, 3) := by decide +kernel
theorem dX10_atNumber_12 : decode cX10_atNumber 12 = .ok (.invokestatic 57, 3) := by decide +kernel
theorem dX10_atNumber_15 : decode cX10_atNumber 15 = .ok (.ireturn, 1) := by decide +kernel
theorem dX10_number_0 : decode cX10_number 0 = .ok (.aload_n 0, 1) := by decide +kernel
theorem dX10_number_1 : decode cX10_number 1 = .ok (.invokevirtual 60, 3) := by decide +kernel
theorem dX10_number_4 : decode cX10_number 4 = .ok (.ifCond .ne 11, 3) := by decide +kernel
theorem dX10_number_7 : decode cX10_number 7 = .ok (.aload_n 0, 1) := by decide +kernel
theorem dX10_number_8 : decode cX10_number 8 = .ok (.iconst 1, 1) := by decide +kernel
theorem dX10_number_9 : decode cX10_number 9 = .ok (.invokevirtual 41, 3) := by decide +kernel
theorem dX10_number_12 : decode cX10_number 12 = .ok (.pop, 1) := by decide +kernel
theorem dX10_number_13 : decode cX10_number 13 = .ok (.iconst (-1), 1) := by decide +kernel
theorem dX10_number_14 : decode cX10_number 14 = .ok (.ireturn, 1) := by decide +kernel
theorem dX10_number_15 : decode cX10_number 15 = .ok (.iconst 0, 1) := by decide +kernel
theorem dX10_number_16 : decode cX10_number 16 = .ok (.istore_n 3, 1) := by decide +kernel
theorem dX10_number_17 : decode cX10_number 17 = .ok (.aload_n 0, 1) := by decide +kernel
theorem dX10_number_18 : decode cX10_number 18 = .ok (.getfield 22, 3) := by decide +kernel
theorem dX10_number_21 : decode cX10_number 21 = .ok (.istore 4, 2) := by decide +kernel
theorem dX10_number_23 : decode cX10_number 23 = .ok (.iload 4, 2) := by decide +kernel
theorem dX10_number_25 : decode cX10_number 25 = .ok (.aload_n 0, 1) := by decide +kernel
theorem dX10_number_26 : decode cX10_number 26 = .ok (.getfield 19, 3) := by decide +kernel
theorem dX10_number_29 : decode cX10_number 29 = .ok (.if_icmp .ge 49, 3) := by decide +kernel
theorem dX10_number_32 : decode cX10_number 32 = .ok (.aload_n 0, 1) := by decide +kernel
theorem dX10_number_33 : decode cX10_number 33 = .ok (.iload 4, 2) := by decide +kernel
theorem dX10_number_35 : decode cX10_number 35 = .ok (.invokevirtual 37, 3) := by decide +kernel
theorem dX10_number_38 : decode cX10_number 38 = .ok (.invokestatic 57, 3) := by decide +kernel
theorem dX10_number_41 : decode cX10_number 41 = .ok (.ifCond .eq 37, 3) := by decide +kernel
theorem dX10_number_44 : decode cX10_number 44 = .ok (.iload_n 3, 1) := by decide +kernel
theorem dX10_number_45 : decode cX10_number 45 = .ok (.bipush 10, 2) := by decide +kernel
theorem dX10_number_47 : decode cX10_number 47 = .ok (.imul, 1) := by decide +kernel
theorem dX10_number_48 : decode cX10_number 48 = .ok (.aload_n 0, 1) := by decide +kernel
theorem dX10_number_49 : decode cX10_number 49 = .ok (.iload 4, 2) := by decide +kernel
theorem dX10_number_51 : decode cX10_number 51 = .ok (.invokevirtual 37, 3) := by decide +kernel
theorem dX10_number_54 : decode cX10_number 54 = .ok (.iadd, 1) := by decide +kernel
theorem dX10_number_55 : decode cX10_number 55 = .ok (.bipush 48, 2) := by decide +kernel
theorem dX10_number_57 : decode cX10_number 57 = .ok (.isub, 1) := by decide +kernel
theorem dX10_number_58 : decode cX10_number 58 = .ok (.ldc 64, 2) := by decide +kernel
theorem dX10_number_60 : decode cX10_number 60 = .ok (.invokestatic 65, 3) := by decide +kernel
theorem dX10_number_63 : decode cX10_number 63 = .ok (.istore_n 3, 1) := by decide +kernel
theorem dX10_number_64 : decode cX10_number 64 = .ok (.aload_n 0, 1) := by decide +kernel
theorem dX10_number_65 : decode cX10_number 65 = .ok (.iload 4, 2) := by decide +kernel
theorem dX10_number_67 : decode cX10_number 67 = .ok (.iconst 1, 1) := by decide +kernel
theorem dX10_number_68 : decode cX10_number 68 = .ok (.iadd, 1) := by decide +kernel
theorem dX10_number_69 : decode cX10_number 69 = .ok (.putfield 22, 3) := by decide +kernel
theorem dX10_number_72 : decode cX10_number 72 = .ok (.iinc 4 1, 3) := by decide +kernel
theorem dX10_number_75 : decode cX10_number 75 = .ok (.goto (-52), 3) := by decide +kernel
theorem dX10_number_78 : decode cX10_number 78 = .ok (.iload_n 3, 1) := by decide +kernel
theorem dX10_number_79 : decode cX10_number 79 = .ok (.iload_n 1, 1) := by decide +kernel
theorem dX10_number_80 : decode cX10_number 80 = .ok (.if_icmp .lt 8, 3) := by decide +kernel
theorem dX10_number_83 : decode cX10_number 83 = .ok (.iload_n 3, 1) := by decide +kernel
theorem dX10_number_84 : decode cX10_number 84 = .ok (.iload_n 2, 1) := by decide +kernel
theorem dX10_number_85 : decode cX10_number 85 = .ok (.if_icmp .le 11, 3) := by decide +kernel
theorem dX10_number_88 : decode cX10_number 88 = .ok (.aload_n 0, 1) := by decide +kernel
theorem dX10_number_89 : decode cX10_number 89 = .ok (.iconst 2, 1) := by decide +kernel
theorem dX10_number_90 : decode cX10_number 90 = .ok (.invokevirtual 41, 3) := by decide +kernel
theorem dX10_number_93 : decode cX10_number 93 = .ok (.pop, 1) := by decide +kernel
theorem dX10_number_94 : decode cX10_number 94 = .ok (.iconst (-1), 1) := by decide +kernel
theorem dX10_number_95 : decode cX10_number 95 = .ok (.ireturn, 1) := by decide +kernel
theorem dX10_number_96 : decode cX10_number 96 = .ok (.iload_n 3, 1) := by decide +kernel
theorem dX10_number_97 : decode cX10_number 97 = .ok (.ireturn, 1) := by decide +kernel
theorem dX11_init_0 : decode cX11_init 0 = .ok (.aload_n 0, 1) := by decide +kernel
theorem dX11_init_1 : decode cX11_init 1 = .ok (.invokespecial 3, 3) := by decide +kernel
theorem dX11_init_4 : decode cX11_init 4 = .ok (.aload_n 0, 1) := by decide +kernel
theorem dX11_init_5 : decode cX11_init 5 = .ok (.new 9, 3) := by decide +kernel
theorem dX11_init_8 : decode cX11_init 8 = .ok (.dup, 1) := by decide +kernel
theorem dX11_init_9 : decode cX11_init 9 = .ok (.invokespecial 11, 3) := by decide +kernel
theorem dX11_init_12 : decode cX11_init 12 = .ok (.putfield 12, 3) := by decide +kernel
theorem dX11_init_15 : decode cX11_init 15 = .ok (.aload_n 0, 1) := by decide +kernel
theorem dX11_init_16 : decode cX11_init 16 = .ok (.new 16, 3) := by decide +kernel
theorem dX11_init_19 : decode cX11_init 19 = .ok (.dup, 1) := by decide +kernel
theorem dX11_init_20 : decode cX11_init 20 = .ok (.invokespecial 18, 3) := by decide +kernel
theorem dX11_init_23 : decode cX11_init 23 = .ok (.putfield 19, 3) := by decide +kernel
theorem dX11_init_26 : decode cX11_init 26 = .ok (.aload_n 0, 1) := by decide +kernel
theorem dX11_init_27 : decode cX11_init 27 = .ok (.new 16, 3) := by decide +kernel
theorem dX11_init_30 : decode cX11_init 30 = .ok (.dup, 1) := by decide +kernel
theorem dX11_init_31 : decode cX11_init 31 = .ok (.invokespecial 18, 3) := by decide +kernel
theorem dX11_init_34 : decode cX11_init 34 = .ok (.putfield 23, 3) := by decide +kernel
theorem dX11_init_37 : decode cX11_init 37 = .ok (.aload_n 0, 1) := by decide +kernel
theorem dX11_init_38 : decode cX11_init 38 = .ok (.new 26, 3) := by decide +kernel
theorem dX11_init_41 : decode cX11_init 41 = .ok (.dup, 1) := by decide +kernel
theorem dX11_init_42 : decode cX11_init 42 = .ok (.invokespecial 28, 3) := by decide +kernel
theorem dX11_init_45 : decode cX11_init 45 = .ok (.putfield 29, 3) := by decide +kernel
theorem dX11_init_48 : decode cX11_init 48 = .ok (.aload_n 0, 1) := by decide +kernel
theorem dX11_init_49 : decode cX11_init 49 = .ok (.new 26, 3) := by decide +kernel
theorem dX11_init_52 : decode cX11_init 52 = .ok (.dup, 1) := by decide +kernel
theorem dX11_init_53 : decode cX11_init 53 = .ok (.invokespecial 28, 3) := by decide +kernel
theorem dX11_init_56 : decode cX11_init 56 = .ok (.putfield 33, 3) := by decide +kernel
theorem dX11_init_59 : decode cX11_init 59 = .ok (.aload_n 0, 1) := by decide +kernel
theorem dX11_init_60 : decode cX11_init 60 = .ok (.new 36, 3) := by decide +kernel
theorem dX11_init_63 : decode cX11_init 63 = .ok (.dup, 1) := by decide +kernel
theorem dX11_init_64 : decode cX11_init 64 = .ok (.invokespecial 38, 3) := by decide +kernel
theorem dX11_init_67 : decode cX11_init 67 = .ok (.putfield 39, 3) := by decide +kernel
theorem dX11_init_70 : decode cX11_init 70 = .ok (.aload_n 0, 1) := by decide +kernel
theorem dX11_init_71 : decode cX11_init 71 = .ok (.new 36, 3) := by decide +kernel
theorem dX11_init_74 : decode cX11_init 74 = .ok (.dup, 1) := by decide +kernel
theorem dX11_init_75 : decode cX11_init 75 = .ok (.invokespecial 38, 3) := by decide +kernel
theorem dX11_init_78 : decode cX11_init 78 = .ok (.putfield 43, 3) := by decide +kernel
theorem dX11_init_81 : decode cX11_init 81 = .ok (.aload_n 0, 1) := by decide +kernel
theorem dX11_init_82 : decode cX11_init 82 = .ok (.new 46, 3) := by decide +kernel
theorem dX11_init_85 : decode cX11_init 85 = .ok (.dup, 1) := by decide +kernel
theorem dX11_init_86 : decode cX11_init 86 = .ok (.invokespecial 48, 3) := by decide +kernel
theorem dX11_init_89 : decode cX11_init 89 = .ok (.putfield 49, 3) := by decide +kernel
theorem dX11_init_92 : decode cX11_init 92 = .ok (.aload_n 0, 1) := by decide +kernel
theorem dX11_init_93 : decode cX11_init 93 = .ok (.new 53, 3) := by decide +kernel
theorem dX11_init_96 : decode cX11_init 96 = .ok (.dup, 1) := by decide +kernel
theorem dX11_init_97 : decode cX11_init 97 = .ok (.aload_n 0, 1) := by decide +kernel
theorem dX11_init_98 : decode cX11_init 98 = .ok (.getfield 19, 3) := by decide +kernel
theorem dX11_init_101 : decode cX11_init 101 = .ok (.aload_n 0, 1) := by decide +kernel
theorem dX11_init_102 : decode cX11_init 102 = .ok (.getfield 29, 3) := by decide +kernel
theorem dX11_init_105 : decode cX11_init 105 = .ok (.invokespecial 55, 3) := by decide +kernel
theorem dX11_init_108 : decode cX11_init 108 = .ok (.putfield 58, 3) := by decide +kernel
theorem dX11_init_111 : decode cX11_init 111 = .ok (.aload_n 0, 1) := by decide +kernel
theorem dX11_init_112 : decode cX11_init 112 = .ok (.new 53, 3) := by decide +kernel
theorem dX11_init_115 : decode cX11_init 115 = .ok (.dup, 1) := by decide +kernel
theorem dX11_init_116 : decode cX11_init 116 = .ok (.aload_n 0, 1) := by decide +kernel
theorem dX11_init_117 : decode cX11_init 117 = .ok (.getfield 19, 3) := by decide +kernel
theorem dX11_init_120 : decode cX11_init 120 = .ok (.aload_n 0, 1) := by decide +kernel
theorem dX11_init_121 : decode cX11_init 121 = .ok (.getfield 29, 3) := by decide +kernel
theorem dX11_init_124 : decode cX11_init 124 = .ok (.invokespecial 55, 3) := by decide +kernel
theorem dX11_init_127 : decode cX11_init 127 = .ok (.putfield 62, 3) := by decide +kernel
theorem dX11_init_130 : decode cX11_init 130 = .ok (.aload_n 0, 1) := by decide +kernel
theorem dX11_init_131 : decode cX11_init 131 = .ok (.new 65, 3) := by decide +kernel
theorem dX11_init_134 : decode cX11_init 134 = .ok (.dup, 1) := by decide +kernel
theorem dX11_init_135 : decode cX11_init 135 = .ok (.invokespecial 67, 3) := by decide +kernel
theorem dX11_init_138 : decode cX11_init 138 = .ok (.putfield 68, 3) := by decide +kernel
theorem dX11_init_141 : decode cX11_init 141 = .ok (.aload_n 0, 1) := by decide +kernel
theorem dX11_init_142 : decode cX11_init 142 = .ok (.new 72, 3) := by decide +kernel
theorem dX11_init_145 : decode cX11_init 145 = .ok (.dup, 1) := by decide +kernel
theorem dX11_init_146 : decode cX11_init 146 = .ok (.aload_n 0, 1) := by decide +kernel
theorem dX11_init_147 : decode cX11_init 147 = .ok (.getfield 19, 3) := by decide +kernel
theorem dX11_init_150 : decode cX11_init 150 = .ok (.aload_n 0, 1) := by decide +kernel
theorem dX11_init_151 : decode cX11_init 151 = .ok (.getfield 58, 3) := by decide +kernel
theorem dX11_init_154 : decode cX11_init 154 = .ok (.invokespecial 74, 3) := by decide +kernel
theorem dX11_init_157 : decode cX11_init 157 = .ok (.putfield 77, 3) := by decide +kernel
theorem dX11_init_160 : decode cX11_init 160 = .ok (.aload_n 0, 1) := by decide +kernel
theorem dX11_init_161 : decode cX11_init 161 = .ok (.new 81, 3) := by decide +kernel
theorem dX11_init_164 : decode cX11_init 164 = .ok (.dup, 1) := by decide +kernel
theorem dX11_init_165 : decode cX11_init 165 = .ok (.aload_n 0, 1) := by decide +kernel
theorem dX11_init_166 : decode cX11_init 166 = .ok (.getfield 58, 3) := by decide +kernel
theorem dX11_init_169 : decode cX11_init 169 = .ok (.aload_n 0, 1) := by decide +kernel
theorem dX11_init_170 : decode cX11_init 170 = .ok (.getfield 62, 3) := by decide +kernel
theorem dX11_init_173 : decode cX11_init 173 = .ok (.aload_n 0, 1) := by decide +kernel
theorem dX11_init_174 : decode cX11_init 174 = .ok (.getfield 39, 3) := by decide +kernel
theorem dX11_init_177 : decode cX11_init 177 = .ok (.invokespecial 83, 3) := by decide +kernel
theorem dX11_init_180 : decode cX11_init 180 = .ok (.putfield 86, 3) := by decide +kernel
theorem dX11_init_183 : decode cX11_init 183 = .ok (.aload_n 0, 1) := by decide +kernel
theorem dX11_init_184 : decode cX11_init 184 = .ok (.new 90, 3) := by decide +kernel
theorem dX11_init_187 : decode cX11_init 187 = .ok (.dup, 1) := by decide +kernel
theorem dX11_init_188 : decode cX11_init 188 = .ok (.aload_n 0, 1) := by decide +kernel
theorem dX11_init_189 : decode cX11_init 189 = .ok (.getfield 19, 3) := by decide +kernel
theorem dX11_init_192 : decode cX11_init 192 = .ok (.aload_n 0, 1) := by decide +kernel
theorem dX11_init_193 : decode cX11_init 193 = .ok (.getfield 58, 3) := by decide +kernel
theorem dX11_init_196 : decode cX11_init 196 = .ok (.aload_n 0, 1) := by decide +kernel
theorem dX11_init_197 : decode cX11_init 197 = .ok (.getfield 62, 3) := by decide +kernel
theorem dX11_init_200 : decode cX11_init 200 = .ok (.invokespecial 92, 3) := by decide +kernel
theorem dX11_init_203 : decode cX11_init 203 = .ok (.putfield 95, 3) := by decide +kernel
theorem dX11_init_206 : decode cX11_init 206 = .ok (.aload_n 0, 1) := by decide +kernel
theorem dX11_init_207 : decode cX11_init 207 = .ok (.iconst 0, 1) := by decide +kernel
theorem dX11_init_208 : decode cX11_init 208 = .ok (.putfield 99, 3) := by decide +kernel
theorem dX11_init_211 : decode cX11_init 211 = .ok (.aload_n 0, 1) := by decide +kernel
theorem dX11_init_212 : decode cX11_init 212 = .ok (.iconst 0, 1) := by decide +kernel
theorem dX11_init_213 : decode cX11_init 213 = .ok (.putfield 103, 3) := by decide +kernel
theorem dX11_init_216 : decode cX11_init 216 = .ok (.aload_n 0, 1) := by decide +kernel
theorem dX11_init_217 : decode cX11_init 217 = .ok (.iconst 0, 1) := by decide +kernel
theorem dX11_init_218 : decode cX11_init 218 = .ok (.putfield 106, 3) := by decide +kernel
theorem dX11_init_221 : decode cX11_init 221 = .ok (.return_, 1) := by decide +kernel
theorem dX11_feed_0 : decode cX11_feed 0 = .ok (.aload_n 0, 1) := by decide +kernel
theorem dX11_feed_1 : decode cX11_feed 1 = .ok (.getfield 12, 3) := by decide +kernel
theorem dX11_feed_4 : decode cX11_feed 4 = .ok (.invokevirtual 109, 3) := by decide +kernel
theorem dX11_feed_7 : decode cX11_feed 7 = .ok (.ifCond .ne 5, 3) := by decide +kernel
theorem dX11_feed_10 : decode cX11_feed 10 = .ok (.iconst (-1), 1) := by decide +kernel
theorem dX11_feed_11 : decode cX11_feed 11 = .ok (.ireturn, 1) := by decide +kernel
theorem dX11_feed_12 : decode cX11_feed 12 = .ok (.aload_n 0, 1) := by decide +kernel
theorem dX11_feed_13 : decode cX11_feed 13 = .ok (.getfield 12, 3) := by decide +kernel
theorem dX11_feed_16 : decode cX11_feed 16 = .ok (.iload_n 1, 1) := by decide +kernel
theorem dX11_feed_17 : decode cX11_feed 17 = .ok (.invokevirtual 113, 3) := by decide +kernel
theorem dX11_feed_20 : decode cX11_feed 20 = .ok (.aload_n 0, 1) := by decide +kernel
theorem dX11_feed_21 : decode cX11_feed 21 = .ok (.getfield 12, 3) := by decide +kernel
theorem dX11_feed_24 : decode cX11_feed 24 = .ok (.iload_n 2, 1) := by decide +kernel
theorem dX11_feed_25 : decode cX11_feed 25 = .ok (.invokevirtual 113, 3) := by decide +kernel
theorem dX11_feed_28 : decode cX11_feed 28 = .ok (.aload_n 0, 1) := by decide +kernel
theorem dX11_feed_29 : decode cX11_feed 29 = .ok (.getfield 12, 3) := by decide +kernel
theorem dX11_feed_32 : decode cX11_feed 32 = .ok (.iload_n 3, 1) := by decide +kernel
theorem dX11_feed_33 : decode cX11_feed 33 = .ok (.invokevirtual 113, 3) := by decide +kernel
theorem dX11_feed_36 : decode cX11_feed 36 = .ok (.aload_n 0, 1) := by decide +kernel
theorem dX11_feed_37 : decode cX11_feed 37 = .ok (.getfield 12, 3) := by decide +kernel
theorem dX11_feed_40 : decode cX11_feed 40 = .ok (.iload 4, 2) := by decide +kernel
theorem dX11_feed_42 : decode cX11_feed 42 = .ok (.invokevirtual 113, 3) := by decide +kernel
theorem dX11_feed_45 : decode cX11_feed 45 = .ok (.aload_n 0, 1) := by decide +kernel
theorem dX11_feed_46 : decode cX11_feed 46 = .ok (.getfield 12, 3) := by decide +kernel
theorem dX11_feed_49 : decode cX11_feed 49 = .ok (.iload 5, 2) := by decide +kernel
theorem dX11_feed_51 : decode cX11_feed 51 = .ok (.invokevirtual 113, 3) := by decide +kernel
theorem dX11_feed_54 : decode cX11_feed 54 = .ok (.aload_n 0, 1) := by decide +kernel
theorem dX11_feed_55 : decode cX11_feed 55 = .ok (.getfield 12, 3) := by decide +kernel
theorem dX11_feed_58 : decode cX11_feed 58 = .ok (.getfield 117, 3) := by decide +kernel
theorem dX11_feed_61 : decode cX11_feed 61 = .ok (.ireturn, 1) := by decide +kernel
theorem dX11_hills_0 : decode cX11_hills 0 = .ok (.aload_n 0, 1) := by decide +kernel
theorem dX11_hills_1 : decode cX11_hills 1 = .ok (.iload_n 1, 1) := by decide +kernel
theorem dX11_hills_2 : decode cX11_hills 2 = .ok (.iconst 0, 1) := by decide +kernel
theorem dX11_hills_3 : decode cX11_hills 3 = .ok (.aload_n 0, 1) := by decide +kernel
theorem dX11_hills_4 : decode cX11_hills 4 = .ok (.getfield 12, 3) := by decide +kernel
theorem dX11_hills_7 : decode cX11_hills 7 = .ok (.getfield 117, 3) := by decide +kernel
theorem dX11_hills_10 : decode cX11_hills 10 = .ok (.invokevirtual 120, 3) := by decide +kernel
theorem dX11_hills_13 : decode cX11_hills 13 = .ok (.aload_n 0, 1) := by decide +kernel
theorem dX11_hills_14 : decode cX11_hills 14 = .ok (.getfield 12, 3) := by decide +kernel
theorem dX11_hills_17 : decode cX11_hills 17 = .ok (.iload_n 1, 1) := by decide +kernel
theorem dX11_hills_18 : decode cX11_hills 18 = .ok (.invokevirtual 124, 3) := by decide +kernel
theorem dX11_hills_21 : decode cX11_hills 21 = .ok (.aload_n 0, 1) := by decide +kernel
theorem dX11_hills_22 : decode cX11_hills 22 = .ok (.getfield 23, 3) := by decide +kernel
theorem dX11_hills_25 : decode cX11_hills 25 = .ok (.aload_n 0, 1) := by decide +kernel
theorem dX11_hills_26 : decode cX11_hills 26 = .ok (.getfield 12, 3) := by decide +kernel
theorem dX11_hills_29 : decode cX11_hills 29 = .ok (.invokevirtual 127, 3) := by decide +kernel
theorem dX11_hills_32 : decode cX11_hills 32 = .ok (.ifCond .ne 11, 3) := by decide +kernel
theorem dX11_hills_35 : decode cX11_hills 35 = .ok (.aload_n 0, 1) := by decide +kernel
theorem dX11_hills_36 : decode cX11_hills 36 = .ok (.getfield 12, 3) := by decide +kernel
theorem dX11_hills_39 : decode cX11_hills 39 = .ok (.invokevirtual 131, 3) := by decide +kernel
theorem dX11_hills_42 : decode cX11_hills 42 = .ok (.ireturn, 1) := by decide +kernel
theorem dX11_hills_43 : decode cX11_hills 43 = .ok (.aload_n 0, 1) := by decide +kernel
theorem dX11_hills_44 : decode cX11_hills 44 = .ok (.getfield 19, 3) := by decide +kernel
theorem dX11_hills_47 : decode cX11_hills 47 = .ok (.aload_n 0, 1) := by decide +kernel
theorem dX11_hills_48 : decode cX11_hills 48 = .ok (.getfield 23, 3) := by decide +kernel
theorem dX11_hills_51 : decode cX11_hills 51 = .ok (.invokevirtual 135, 3) := by decide +kernel
theorem dX11_hills_54 : decode cX11_hills 54 = .ok (.aload_n 0, 1) := by decide +kernel
theorem dX11_hills_55 : decode cX11_hills 55 = .ok (.getfield 29, 3) := by decide +kernel
theorem dX11_hills_58 : decode cX11_hills 58 = .ok (.invokevirtual 139, 3) := by decide +kernel
theorem dX11_hills_61 : decode cX11_hills 61 = .ok (.aload_n 0, 1) := by decide +kernel
theorem dX11_hills_62 : decode cX11_hills 62 = .ok (.getfield 39, 3) := by decide +kernel
theorem dX11_hills_65 : decode cX11_hills 65 = .ok (.invokevirtual 142, 3) := by decide +kernel
theorem dX11_hills_68 : decode cX11_hills 68 = .ok (.aload_n 0, 1) := by decide +kernel
theorem dX11_hills_69 : decode cX11_hills 69 = .ok (.getfield 68, 3) := by decide +kernel
theorem dX11_hills_72 : decode cX11_hills 72 = .ok (.invokevirtual 145, 3) := by decide +kernel
theorem dX11_hills_75 : decode cX11_hills 75 = .ok (.aload_n 0, 1) := by decide +kernel
theorem dX11_hills_76 : decode cX11_hills 76 = .ok (.getfield 58, 3) := by decide +kernel
theorem dX11_hills_79 : decode cX11_hills 79 = .ok (.invokevirtual 146, 3) := by decide +kernel
theorem dX11_hills_82 : decode cX11_hills 82 = .ok (.aload_n 0, 1) := by decide +kernel
theorem dX11_hills_83 : decode cX11_hills 83 = .ok (.iconst 0, 1) := by decide +kernel
theorem dX11_hills_84 : decode cX11_hills 84 = .ok (.putfield 99, 3) := by decide +kernel
theorem dX11_hills_87 : decode cX11_hills 87 = .ok (.aload_n 0, 1) := by decide +kernel
theorem dX11_hills_88 : decode cX11_hills 88 = .ok (.getfield 19, 3) := by decide +kernel
theorem dX11_hills_91 : decode cX11_hills 91 = .ok (.getfield 149, 3) := by decide +kernel
theorem dX11_hills_94 : decode cX11_hills 94 = .ok (.ireturn, 1) := by decide +kernel
theorem dX11_law_0 : decode cX11_law 0 = .ok (.aload_n 0, 1) := by decide +kernel
theorem dX11_law_1 : decode cX11_law 1 = .ok (.iload_n 1, 1) := by decide +kernel
theorem dX11_law_2 : decode cX11_law 2 = .ok (.iconst 0, 1) := by decide +kernel
theorem dX11_law_3 : decode cX11_law 3 = .ok (.aload_n 0, 1) := by decide +kernel
theorem dX11_law_4 : decode cX11_law 4 = .ok (.getfield 12, 3) := by decide +kernel
theorem dX11_law_7 : decode cX11_law 7 = .ok (.getfield 117, 3) := by decide +kernel
theorem dX11_law_10 : decode cX11_law 10 = .ok (.sipush 150, 3) := by decide +kernel
theorem dX11_law_13 : decode cX11_law 13 = .ok (.invokestatic 152, 3) := by decide +kernel
theorem dX11_law_16 : decode cX11_law 16 = .ok (.invokevirtual 120, 3) := by decide +kernel
theorem dX11_law_19 : decode cX11_law 19 = .ok (.aload_n 0, 1) := by decide +kernel
theorem dX11_law_20 : decode cX11_law 20 = .ok (.getfield 12, 3) := by decide +kernel
theorem dX11_law_23 : decode cX11_law 23 = .ok (.iload_n 1, 1) := by decide +kernel
theorem dX11_law_24 : decode cX11_law 24 = .ok (.invokevirtual 124, 3) := by decide +kernel
theorem dX11_law_27 : decode cX11_law 27 = .ok (.aload_n 0, 1) := by decide +kernel
theorem dX11_law_28 : decode cX11_law 28 = .ok (.getfield 33, 3) := by decide +kernel
theorem dX11_law_31 : decode cX11_law 31 = .ok (.aload_n 0, 1) := by decide +kernel
theorem dX11_law_32 : decode cX11_law 32 = .ok (.getfield 12, 3) := by decide +kernel
theorem dX11_law_35 : decode cX11_law 35 = .ok (.invokevirtual 158, 3) := by decide +kernel
theorem dX11_law_38 : decode cX11_law 38 = .ok (.ifCond .ne 11, 3) := by decide +kernel
theorem dX11_law_41 : decode cX11_law 41 = .ok (.aload_n 0, 1) := by decide +kernel
theorem dX11_law_42 : decode cX11_law 42 = .ok (.getfield 12, 3) := by decide +kernel
theorem dX11_law_45 : decode cX11_law 45 = .ok (.invokevirtual 131, 3) := by decide +kernel
theorem dX11_law_48 : decode cX11_law 48 = .ok (.ireturn, 1) := by decide +kernel
theorem dX11_law_49 : decode cX11_law 49 = .ok (.aload_n 0, 1) := by decide +kernel
theorem dX11_law_50 : decode cX11_law 50 = .ok (.getfield 29, 3) := by decide +kernel
theorem dX11_law_53 : decode cX11_law 53 = .ok (.aload_n 0, 1) := by decide +kernel
theorem dX11_law_54 : decode cX11_law 54 = .ok (.getfield 33, 3) := by decide +kernel
theorem dX11_law_57 : decode cX11_law 57 = .ok (.invokevirtual 159, 3) := by decide +kernel
theorem dX11_law_60 : decode cX11_law 60 = .ok (.iconst 1, 1) := by decide +kernel
theorem dX11_law_61 : decode cX11_law 61 = .ok (.ireturn, 1) := by decide +kernel
theorem dX11_work_0 : decode cX11_work 0 = .ok (.aload_n 0, 1) := by decide +kernel
theorem dX11_work_1 : decode cX11_work 1 = .ok (.iload_n 1, 1) := by decide +kernel
theorem dX11_work_2 : decode cX11_work 2 = .ok (.iconst 0, 1) := by decide +kernel
theorem dX11_work_3 : decode cX11_work 3 = .ok (.aload_n 0, 1) := by decide +kernel
theorem dX11_work_4 : decode cX11_work 4 = .ok (.getfield 12, 3) := by decide +kernel
theorem dX11_work_7 : decode cX11_work 7 = .ok (.getfield 117, 3) := by decide +kernel
theorem dX11_work_10 : decode cX11_work 10 = .ok (.sipush 150, 3) := by decide +kernel
theorem dX11_work_13 : decode cX11_work 13 = .ok (.invokestatic 152, 3) := by decide +kernel
theorem dX11_work_16 : decode cX11_work 16 = .ok (.invokevirtual 120, 3) := by decide +kernel
theorem dX11_work_19 : decode cX11_work 19 = .ok (.aload_n 0, 1) := by decide +kernel
theorem dX11_work_20 : decode cX11_work 20 = .ok (.getfield 68, 3) := by decide +kernel
theorem dX11_work_23 : decode cX11_work 23 = .ok (.getfield 162, 3) := by decide +kernel
theorem dX11_work_26 : decode cX11_work 26 = .ok (.bipush 16, 2) := by decide +kernel
theorem dX11_work_28 : decode cX11_work 28 = .ok (.if_icmp .lt 14, 3) := by decide +kernel
theorem dX11_work_31 : decode cX11_work 31 = .ok (.aload_n 0, 1) := by decide +kernel
theorem dX11_work_32 : decode cX11_work 32 = .ok (.getfield 12, 3) := by decide +kernel
theorem dX11_work_35 : decode cX11_work 35 = .ok (.iconst 0, 1) := by decide +kernel
theorem dX11_work_36 : decode cX11_work 36 = .ok (.invokevirtual 124, 3) := by decide +kernel
theorem dX11_work_39 : decode cX11_work 39 = .ok (.bipush (-20), 2) := by decide +kernel
theorem dX11_work_41 : decode cX11_work 41 = .ok (.ireturn, 1) := by decide +kernel
theorem dX11_work_42 : decode cX11_work 42 = .ok (.aload_n 0, 1) := by decide +kernel
theorem dX11_work_43 : decode cX11_work 43 = .ok (.getfield 12, 3) := by decide +kernel
theorem dX11_work_46 : decode cX11_work 46 = .ok (.iload_n 1, 1) := by decide +kernel
theorem dX11_work_47 : decode cX11_work 47 = .ok (.invokevirtual 124, 3) := by decide +kernel
theorem dX11_work_50 : decode cX11_work 50 = .ok (.aload_n 0, 1) := by decide +kernel
theorem dX11_work_51 : decode cX11_work 51 = .ok (.getfield 49, 3) := by decide +kernel
theorem dX11_work_54 : decode cX11_work 54 = .ok (.aload_n 0, 1) := by decide +kernel
theorem dX11_work_55 : decode cX11_work 55 = .ok (.getfield 12, 3) := by decide +kernel
theorem dX11_work_58 : decode cX11_work 58 = .ok (.aload_n 0, 1) := by decide +kernel
theorem dX11_work_59 : decode cX11_work 59 = .ok (.getfield 19, 3) := by decide +kernel
theorem dX11_work_62 : decode cX11_work 62 = .ok (.invokevirtual 165, 3) := by decide +kernel
theorem dX11_work_65 : decode cX11_work 65 = .ok (.ifCond .ne 11, 3) := by decide +kernel
theorem dX11_work_68 : decode cX11_work 68 = .ok (.aload_n 0, 1) := by decide +kernel
theorem dX11_work_69 : decode cX11_work 69 = .ok (.getfield 12, 3) := by decide +kernel
theorem dX11_work_72 : decode cX11_work 72 = .ok (.invokevirtual 131, 3) := by decide +kernel
theorem dX11_work_75 : decode cX11_work 75 = .ok (.ireturn, 1) := by decide +kernel
theorem dX11_work_76 : decode cX11_work 76 = .ok (.aload_n 0, 1) := by decide +kernel
theorem dX11_work_77 : decode cX11_work 77 = .ok (.getfield 68, 3) := by decide +kernel
theorem dX11_work_80 : decode cX11_work 80 = .ok (.aload_n 0, 1) := by decide +kernel
theorem dX11_work_81 : decode cX11_work 81 = .ok (.getfield 58, 3) := by decide +kernel
theorem dX11_work_84 : decode cX11_work 84 = .ok (.invokevirtual 168, 3) := by decide +kernel
theorem dX11_work_87 : decode cX11_work 87 = .ok (.aload_n 0, 1) := by decide +kernel
theorem dX11_work_88 : decode cX11_work 88 = .ok (.getfield 49, 3) := by decide +kernel
theorem dX11_work_91 : decode cX11_work 91 = .ok (.aload_n 0, 1) := by decide +kernel
theorem dX11_work_92 : decode cX11_work 92 = .ok (.getfield 58, 3) := by decide +kernel
theorem dX11_work_95 : decode cX11_work 95 = .ok (.iconst 0, 1) := by decide +kernel
theorem dX11_work_96 : decode cX11_work 96 = .ok (.aload_n 0, 1) := by decide +kernel
theorem dX11_work_97 : decode cX11_work 97 = .ok (.getfield 49, 3) := by decide +kernel
theorem dX11_work_100 : decode cX11_work 100 = .ok (.getfield 172, 3) := by decide +kernel
theorem dX11_work_103 : decode cX11_work 103 = .ok (.iconst 0, 1) := by decide +kernel
theorem dX11_work_104 : decode cX11_work 104 = .ok (.invokevirtual 173, 3) := by decide +kernel
theorem dX11_work_107 : decode cX11_work 107 = .ok (.aload_n 0, 1) := by decide +kernel
theorem dX11_work_108 : decode cX11_work 108 = .ok (.aload_n 0, 1) := by decide +kernel
theorem dX11_work_109 : decode cX11_work 109 = .ok (.getfield 49, 3) := by decide +kernel
theorem dX11_work_112 : decode cX11_work 112 = .ok (.getfield 177, 3) := by decide +kernel
theorem dX11_work_115 : decode cX11_work 115 = .ok (.putfield 99, 3) := by decide +kernel
theorem dX11_work_118 : decode cX11_work 118 = .ok (.aload_n 0, 1) := by decide +kernel
theorem dX11_work_119 : decode cX11_work 119 = .ok (.getfield 49, 3) := by decide +kernel
theorem dX11_work_122 : decode cX11_work 122 = .ok (.getfield 180, 3) := by decide +kernel
theorem dX11_work_125 : decode cX11_work 125 = .ok (.ireturn, 1) := by decide +kernel
theorem dX11_book_0 : decode cX11_book 0 = .ok (.aload_n 0, 1) := by decide +kernel
theorem dX11_book_1 : decode cX11_book 1 = .ok (.iload_n 1, 1) := by decide +kernel
theorem dX11_book_2 : decode cX11_book 2 = .ok (.iconst 0, 1) := by decide +kernel
theorem dX11_book_3 : decode cX11_book 3 = .ok (.aload_n 0, 1) := by decide +kernel
theorem dX11_book_4 : decode cX11_book 4 = .ok (.getfield 12, 3) := by decide +kernel
theorem dX11_book_7 : decode cX11_book 7 = .ok (.getfield 117, 3) := by decide +kernel
theorem dX11_book_10 : decode cX11_book 10 = .ok (.bipush 60, 2) := by decide +kernel
theorem dX11_book_12 : decode cX11_book 12 = .ok (.invokestatic 152, 3) := by decide +kernel
theorem dX11_book_15 : decode cX11_book 15 = .ok (.invokevirtual 120, 3) := by decide +kernel
theorem dX11_book_18 : decode cX11_book 18 = .ok (.aload_n 0, 1) := by decide +kernel
theorem dX11_book_19 : decode cX11_book 19 = .ok (.getfield 12, 3) := by decide +kernel
theorem dX11_book_22 : decode cX11_book 22 = .ok (.iload_n 1, 1) := by decide +kernel
theorem dX11_book_23 : decode cX11_book 23 = .ok (.invokevirtual 124, 3) := by decide +kernel
theorem dX11_book_26 : decode cX11_book 26 = .ok (.aload_n 0, 1) := by decide +kernel
theorem dX11_book_27 : decode cX11_book 27 = .ok (.getfield 43, 3) := by decide +kernel
theorem dX11_book_30 : decode cX11_book 30 = .ok (.aload_n 0, 1) := by decide +kernel
theorem dX11_book_31 : decode cX11_book 31 = .ok (.getfield 12, 3) := by decide +kernel
theorem dX11_book_34 : decode cX11_book 34 = .ok (.invokevirtual 183, 3) := by decide +kernel
theorem dX11_book_37 : decode cX11_book 37 = .ok (.ifCond .ne 11, 3) := by decide +kernel
theorem dX11_book_40 : decode cX11_book 40 = .ok (.aload_n 0, 1) := by decide +kernel
theorem dX11_book_41 : decode cX11_book 41 = .ok (.getfield 12, 3) := by decide +kernel
theorem dX11_book_44 : decode cX11_book 44 = .ok (.invokevirtual 131, 3) := by decide +kernel
theorem dX11_book_47 : decode cX11_book 47 = .ok (.ireturn, 1) := by decide +kernel
theorem dX11_book_48 : decode cX11_book 48 = .ok (.aload_n 0, 1) := by decide +kernel
theorem dX11_book_49 : decode cX11_book 49 = .ok (.getfield 39, 3) := by decide +kernel
theorem dX11_book_52 : decode cX11_book 52 = .ok (.aload_n 0, 1) := by decide +kernel
theorem dX11_book_53 : decode cX11_book 53 = .ok (.getfield 43, 3) := by decide +kernel
theorem dX11_book_56 : decode cX11_book 56 = .ok (.invokevirtual 184, 3) := by decide +kernel
theorem dX11_book_59 : decode cX11_book 59 = .ok (.aload_n 0, 1) := by decide +kernel
theorem dX11_book_60 : decode cX11_book 60 = .ok (.getfield 39, 3) := by decide +kernel
theorem dX11_book_63 : decode cX11_book 63 = .ok (.getfield 187, 3) := by decide +kernel
theorem dX11_book_66 : decode cX11_book 66 = .ok (.ireturn, 1) := by decide +kernel
theorem dX11_fault_0 : decode cX11_fault 0 = .ok (.aload_n 0, 1) := by decide +kernel
theorem dX11_fault_1 : decode cX11_fault 1 = .ok (.getfield 12, 3) := by decide +kernel
theorem dX11_fault_4 : decode cX11_fault 4 = .ok (.getfield 190, 3) := by decide +kernel
theorem dX11_fault_7 : decode cX11_fault 7 = .ok (.ireturn, 1) := by decide +kernel
theorem dX11_undo_0 : decode cX11_undo 0 = .ok (.aload_n 0, 1) := by decide +kernel
theorem dX11_undo_1 : decode cX11_undo 1 = .ok (.getfield 68, 3) := by decide +kernel
theorem dX11_undo_4 : decode cX11_undo 4 = .ok (.aload_n 0, 1) := by decide +kernel
theorem dX11_undo_5 : decode cX11_undo 5 = .ok (.getfield 58, 3) := by decide +kernel
theorem dX11_undo_8 : decode cX11_undo 8 = .ok (.invokevirtual 193, 3) := by decide +kernel
theorem dX11_undo_11 : decode cX11_undo 11 = .ok (.ifCond .ne 5, 3) := by decide +kernel
theorem dX11_undo_14 : decode cX11_undo 14 = .ok (.iconst (-1), 1) := by decide +kernel
theorem dX11_undo_15 : decode cX11_undo 15 = .ok (.ireturn, 1) := by decide +kernel
theorem dX11_undo_16 : decode cX11_undo 16 = .ok (.aload_n 0, 1) := by decide +kernel
theorem dX11_undo_17 : decode cX11_undo 17 = .ok (.iconst 0, 1) := by decide +kernel
theorem dX11_undo_18 : decode cX11_undo 18 = .ok (.putfield 99, 3) := by decide +kernel
theorem dX11_undo_21 : decode cX11_undo 21 = .ok (.aload_n 0, 1) := by decide +kernel
theorem dX11_undo_22 : decode cX11_undo 22 = .ok (.getfield 68, 3) := by decide +kernel
theorem dX11_undo_25 : decode cX11_undo 25 = .ok (.getfield 162, 3) := by decide +kernel
theorem dX11_undo_28 : decode cX11_undo 28 = .ok (.ireturn, 1) := by decide +kernel
theorem dX11_image_0 : decode cX11_image 0 = .ok (.aload_n 0, 1) := by decide +kernel
theorem dX11_image_1 : decode cX11_image 1 = .ok (.getfield 68, 3) := by decide +kernel
theorem dX11_image_4 : decode cX11_image 4 = .ok (.aload_n 0, 1) := by decide +kernel
theorem dX11_image_5 : decode cX11_image 5 = .ok (.getfield 58, 3) := by decide +kernel
theorem dX11_image_8 : decode cX11_image 8 = .ok (.invokevirtual 197, 3) := by decide +kernel
theorem dX11_image_11 : decode cX11_image 11 = .ok (.ifCond .eq 13, 3) := by decide +kernel
theorem dX11_image_14 : decode cX11_image 14 = .ok (.aload_n 0, 1) := by decide +kernel
theorem dX11_image_15 : decode cX11_image 15 = .ok (.getfield 68, 3) := by decide +kernel
theorem dX11_image_18 : decode cX11_image 18 = .ok (.getfield 200, 3) := by decide +kernel
theorem dX11_image_21 : decode cX11_image 21 = .ok (.goto 4, 3) := by decide +kernel
theorem dX11_image_24 : decode cX11_image 24 = .ok (.iconst (-1), 1) := by decide +kernel
theorem dX11_image_25 : decode cX11_image 25 = .ok (.ireturn, 1) := by decide +kernel
theorem dX11_restore_0 : decode cX11_restore 0 = .ok (.aload_n 0, 1) := by decide +kernel
theorem dX11_restore_1 : decode cX11_restore 1 = .ok (.getfield 68, 3) := by decide +kernel
theorem dX11_restore_4 : decode cX11_restore 4 = .ok (.aload_n 0, 1) := by decide +kernel
theorem dX11_restore_5 : decode cX11_restore 5 = .ok (.getfield 58, 3) := by decide +kernel
theorem dX11_restore_8 : decode cX11_restore 8 = .ok (.invokevirtual 203, 3) := by decide +kernel
theorem dX11_restore_11 : decode cX11_restore 11 = .ok (.ifCond .ne 5, 3) := by decide +kernel
theorem dX11_restore_14 : decode cX11_restore 14 = .ok (.iconst (-1), 1) := by decide +kernel
theorem dX11_restore_15 : decode cX11_restore 15 = .ok (.ireturn, 1) := by decide +kernel
theorem dX11_restore_16 : decode cX11_restore 16 = .ok (.aload_n 0, 1) := by decide +kernel
theorem dX11_restore_17 : decode cX11_restore 17 = .ok (.iconst 0, 1) := by decide +kernel
theorem dX11_restore_18 : decode cX11_restore 18 = .ok (.putfield 99, 3) := by decide +kernel
theorem dX11_restore_21 : decode cX11_restore 21 = .ok (.aload_n 0, 1) := by decide +kernel
theorem dX11_restore_22 : decode cX11_restore 22 = .ok (.getfield 68, 3) := by decide +kernel
theorem dX11_restore_25 : decode cX11_restore 25 = .ok (.getfield 200, 3) := by decide +kernel
theorem dX11_restore_28 : decode cX11_restore 28 = .ok (.ireturn, 1) := by decide +kernel
theorem dX11_told_0 : decode cX11_told 0 = .ok (.aload_n 0, 1) := by decide +kernel
theorem dX11_told_1 : decode cX11_told 1 = .ok (.iload_n 1, 1) := by decide +kernel
theorem dX11_told_2 : decode cX11_told 2 = .ok (.iconst 0, 1) := by decide +kernel
theorem dX11_told_3 : decode cX11_told 3 = .ok (.bipush 11, 2) := by decide +kernel
theorem dX11_told_5 : decode cX11_told 5 = .ok (.invokevirtual 120, 3) := by decide +kernel
theorem dX11_told_8 : decode cX11_told 8 = .ok (.iload_n 1, 1) := by decide +kernel
theorem dX11_told_9 : decode cX11_told 9 = .ok (.tableswitch 158 0 10 #[59, 67, 75, 83, 91, 99, 107, 122, 137, 145, 153], 59) := by decide +kernel
theorem dX11_told_68 : decode cX11_told 68 = .ok (.aload_n 0, 1) := by decide +kernel
theorem dX11_told_69 : decode cX11_told 69 = .ok (.getfield 19, 3) := by decide +kernel
theorem dX11_told_72 : decode cX11_told 72 = .ok (.getfield 206, 3) := by decide +kernel
theorem dX11_told_75 : decode cX11_told 75 = .ok (.ireturn, 1) := by decide +kernel
theorem dX11_told_76 : decode cX11_told 76 = .ok (.aload_n 0, 1) := by decide +kernel
theorem dX11_told_77 : decode cX11_told 77 = .ok (.getfield 19, 3) := by decide +kernel
theorem dX11_told_80 : decode cX11_told 80 = .ok (.getfield 149, 3) := by decide +kernel
theorem dX11_told_83 : decode cX11_told 83 = .ok (.ireturn, 1) := by decide +kernel
theorem dX11_told_84 : decode cX11_told 84 = .ok (.aload_n 0, 1) := by decide +kernel
theorem dX11_told_85 : decode cX11_told 85 = .ok (.getfield 19, 3) := by decide +kernel
theorem dX11_told_88 : decode cX11_told 88 = .ok (.getfield 209, 3) := by decide +kernel
theorem dX11_told_91 : decode cX11_told 91 = .ok (.ireturn, 1) := by decide +kernel
theorem dX11_told_92 : decode cX11_told 92 = .ok (.aload_n 0, 1) := by decide +kernel
theorem dX11_told_93 : decode cX11_told 93 = .ok (.getfield 58, 3) := by decide +kernel
theorem dX11_told_96 : decode cX11_told 96 = .ok (.getfield 212, 3) := by decide +kernel
theorem dX11_told_99 : decode cX11_told 99 = .ok (.ireturn, 1) := by decide +kernel
theorem dX11_told_100 : decode cX11_told 100 = .ok (.aload_n 0, 1) := by decide +kernel
theorem dX11_told_101 : decode cX11_told 101 = .ok (.getfield 58, 3) := by decide +kernel
theorem dX11_told_104 : decode cX11_told 104 = .ok (.invokevirtual 215, 3) := by decide +kernel
theorem dX11_told_107 : decode cX11_told 107 = .ok (.ireturn, 1) := by decide +kernel
theorem dX11_told_108 : decode cX11_told 108 = .ok (.aload_n 0, 1) := by decide +kernel
theorem dX11_told_109 : decode cX11_told 109 = .ok (.getfield 58, 3) := by decide +kernel
theorem dX11_told_112 : decode cX11_told 112 = .ok (.invokevirtual 218, 3) := by decide +kernel
theorem dX11_told_115 : decode cX11_told 115 = .ok (.ireturn, 1) := by decide +kernel
theorem dX11_told_116 : decode cX11_told 116 = .ok (.aload_n 0, 1) := by decide +kernel
theorem dX11_told_117 : decode cX11_told 117 = .ok (.getfield 58, 3) := by decide +kernel
theorem dX11_told_120 : decode cX11_told 120 = .ok (.aload_n 0, 1) := by decide +kernel
theorem dX11_told_121 : decode cX11_told 121 = .ok (.getfield 58, 3) := by decide +kernel
theorem dX11_told_124 : decode cX11_told 124 = .ok (.invokevirtual 215, 3) := by decide +kernel
theorem dX11_told_127 : decode cX11_told 127 = .ok (.invokevirtual 221, 3) := by decide +kernel
theorem dX11_told_130 : decode cX11_told 130 = .ok (.ireturn, 1) := by decide +kernel
theorem dX11_told_131 : decode cX11_told 131 = .ok (.aload_n 0, 1) := by decide +kernel
theorem dX11_told_132 : decode cX11_told 132 = .ok (.getfield 58, 3) := by decide +kernel
theorem dX11_told_135 : decode cX11_told 135 = .ok (.aload_n 0, 1) := by decide +kernel
theorem dX11_told_136 : decode cX11_told 136 = .ok (.getfield 58, 3) := by decide +kernel
theorem dX11_told_139 : decode cX11_told 139 = .ok (.invokevirtual 215, 3) := by decide +kernel
theorem dX11_told_142 : decode cX11_told 142 = .ok (.invokevirtual 225, 3) := by decide +kernel
theorem dX11_told_145 : decode cX11_told 145 = .ok (.ireturn, 1) := by decide +kernel
theorem dX11_told_146 : decode cX11_told 146 = .ok (.aload_n 0, 1) := by decide +kernel
theorem dX11_told_147 : decode cX11_told 147 = .ok (.getfield 58, 3) := by decide +kernel
theorem dX11_told_150 : decode cX11_told 150 = .ok (.getfield 228, 3) := by decide +kernel
theorem dX11_told_153 : decode cX11_told 153 = .ok (.ireturn, 1) := by decide +kernel
theorem dX11_told_154 : decode cX11_told 154 = .ok (.aload_n 0, 1) := by decide +kernel
theorem dX11_told_155 : decode cX11_told 155 = .ok (.getfield 39, 3) := by decide +kernel
theorem dX11_told_158 : decode cX11_told 158 = .ok (.getfield 187, 3) := by decide +kernel
theorem dX11_told_161 : decode cX11_told 161 = .ok (.ireturn, 1) := by decide +kernel
theorem dX11_told_162 : decode cX11_told 162 = .ok (.aload_n 0, 1) := by decide +kernel
theorem dX11_told_163 : decode cX11_told 163 = .ok (.getfield 99, 3) := by decide +kernel
theorem dX11_told_166 : decode cX11_told 166 = .ok (.ireturn, 1) := by decide +kernel
theorem dX11_told_167 : decode cX11_told 167 = .ok (.aload_n 0, 1) := by decide +kernel
theorem dX11_told_168 : decode cX11_told 168 = .ok (.getfield 58, 3) := by decide +kernel
theorem dX11_told_171 : decode cX11_told 171 = .ok (.invokevirtual 231, 3) := by decide +kernel
theorem dX11_told_174 : decode cX11_told 174 = .ok (.ireturn, 1) := by decide +kernel
theorem dX11_folk_0 : decode cX11_folk 0 = .ok (.aload_n 0, 1) := by decide +kernel
theorem dX11_folk_1 : decode cX11_folk 1 = .ok (.iload_n 1, 1) := by decide +kernel
theorem dX11_folk_2 : decode cX11_folk 2 = .ok (.invokevirtual 234, 3) := by decide +kernel
theorem dX11_folk_5 : decode cX11_folk 5 = .ok (.aload_n 0, 1) := by decide +kernel
theorem dX11_folk_6 : decode cX11_folk 6 = .ok (.iload_n 2, 1) := by decide +kernel
theorem dX11_folk_7 : decode cX11_folk 7 = .ok (.iconst 0, 1) := by decide +kernel
theorem dX11_folk_8 : decode cX11_folk 8 = .ok (.iconst 5, 1) := by decide +kernel
theorem dX11_folk_9 : decode cX11_folk 9 = .ok (.invokevirtual 120, 3) := by decide +kernel
theorem dX11_folk_12 : decode cX11_folk 12 = .ok (.iload_n 2, 1) := by decide +kernel
theorem dX11_folk_13 : decode cX11_folk 13 = .ok (.tableswitch 96 0 4 #[35, 44, 53, 62, 79], 35) := by decide +kernel
theorem dX11_folk_48 : decode cX11_folk 48 = .ok (.aload_n 0, 1) := by decide +kernel
theorem dX11_folk_49 : decode cX11_folk 49 = .ok (.getfield 58, 3) := by decide +kernel
theorem dX11_folk_52 : decode cX11_folk 52 = .ok (.iload_n 1, 1) := by decide +kernel
theorem dX11_folk_53 : decode cX11_folk 53 = .ok (.invokevirtual 237, 3) := by decide +kernel
theorem dX11_folk_56 : decode cX11_folk 56 = .ok (.ireturn, 1) := by decide +kernel
theorem dX11_folk_57 : decode cX11_folk 57 = .ok (.aload_n 0, 1) := by decide +kernel
theorem dX11_folk_58 : decode cX11_folk 58 = .ok (.getfield 19, 3) := by decide +kernel
theorem dX11_folk_61 : decode cX11_folk 61 = .ok (.iload_n 1, 1) := by decide +kernel
theorem dX11_folk_62 : decode cX11_folk 62 = .ok (.invokevirtual 240, 3) := by decide +kernel
theorem dX11_folk_65 : decode cX11_folk 65 = .ok (.ireturn, 1) := by decide +kernel
theorem dX11_folk_66 : decode cX11_folk 66 = .ok (.aload_n 0, 1) := by decide +kernel
theorem dX11_folk_67 : decode cX11_folk 67 = .ok (.getfield 58, 3) := by decide +kernel
theorem dX11_folk_70 : decode cX11_folk 70 = .ok (.iload_n 1, 1) := by decide +kernel
theorem dX11_folk_71 : decode cX11_folk 71 = .ok (.invokevirtual 243, 3) := by decide +kernel
theorem dX11_folk_74 : decode cX11_folk 74 = .ok (.ireturn, 1) := by decide +kernel
theorem dX11_folk_75 : decode cX11_folk 75 = .ok (.aload_n 0, 1) := by decide +kernel
theorem dX11_folk_76 : decode cX11_folk 76 = .ok (.getfield 58, 3) := by decide +kernel
theorem dX11_folk_79 : decode cX11_folk 79 = .ok (.invokevirtual 215, 3) := by decide +kernel
theorem dX11_folk_82 : decode cX11_folk 82 = .ok (.aload_n 0, 1) := by decide +kernel
theorem dX11_folk_83 : decode cX11_folk 83 = .ok (.getfield 19, 3) := by decide +kernel
theorem dX11_folk_86 : decode cX11_folk 86 = .ok (.iload_n 1, 1) := by decide +kernel
theorem dX11_folk_87 : decode cX11_folk 87 = .ok (.invokevirtual 246, 3) := by decide +kernel
theorem dX11_folk_90 : decode cX11_folk 90 = .ok (.iand, 1) := by decide +kernel
theorem dX11_folk_91 : decode cX11_folk 91 = .ok (.ireturn, 1) := by decide +kernel
theorem dX11_folk_92 : decode cX11_folk 92 = .ok (.aload_n 0, 1) := by decide +kernel
theorem dX11_folk_93 : decode cX11_folk 93 = .ok (.getfield 58, 3) := by decide +kernel
theorem dX11_folk_96 : decode cX11_folk 96 = .ok (.invokevirtual 215, 3) := by decide +kernel
theorem dX11_folk_99 : decode cX11_folk 99 = .ok (.aload_n 0, 1) := by decide +kernel
theorem dX11_folk_100 : decode cX11_folk 100 = .ok (.getfield 19, 3) := by decide +kernel
theorem dX11_folk_103 : decode cX11_folk 103 = .ok (.iload_n 1, 1) := by decide +kernel
theorem dX11_folk_104 : decode cX11_folk 104 = .ok (.invokevirtual 249, 3) := by decide +kernel
theorem dX11_folk_107 : decode cX11_folk 107 = .ok (.iand, 1) := by decide +kernel
theorem dX11_folk_108 : decode cX11_folk 108 = .ok (.ireturn, 1) := by decide +kernel
theorem dX11_folk_109 : decode cX11_folk 109 = .ok (.aload_n 0, 1) := by decide +kernel
theorem dX11_folk_110 : decode cX11_folk 110 = .ok (.getfield 58, 3) := by decide +kernel
theorem dX11_folk_113 : decode cX11_folk 113 = .ok (.aload_n 0, 1) := by decide +kernel
theorem dX11_folk_114 : decode cX11_folk 114 = .ok (.getfield 58, 3) := by decide +kernel
theorem dX11_folk_117 : decode cX11_folk 117 = .ok (.iload_n 1, 1) := by decide +kernel
theorem dX11_folk_118 : decode cX11_folk 118 = .ok (.invokevirtual 243, 3) := by decide +kernel
theorem dX11_folk_121 : decode cX11_folk 121 = .ok (.invokevirtual 225, 3) := by decide +kernel
theorem dX11_folk_124 : decode cX11_folk 124 = .ok (.ireturn, 1) := by decide +kernel
theorem dX11_beast_0 : decode cX11_beast 0 = .ok (.aload_n 0, 1) := by decide +kernel
theorem dX11_beast_1 : decode cX11_beast 1 = .ok (.iload_n 1, 1) := by decide +kernel
theorem dX11_beast_2 : decode cX11_beast 2 = .ok (.invokevirtual 252, 3) := by decide +kernel
theorem dX11_beast_5 : decode cX11_beast 5 = .ok (.aload_n 0, 1) := by decide +kernel
theorem dX11_beast_6 : decode cX11_beast 6 = .ok (.iload_n 2, 1) := by decide +kernel
theorem dX11_beast_7 : decode cX11_beast 7 = .ok (.iconst 0, 1) := by decide +kernel
theorem dX11_beast_8 : decode cX11_beast 8 = .ok (.bipush 6, 2) := by decide +kernel
theorem dX11_beast_10 : decode cX11_beast 10 = .ok (.invokevirtual 120, 3) := by decide +kernel
theorem dX11_beast_13 : decode cX11_beast 13 = .ok (.iload_n 2, 1) := by decide +kernel
theorem dX11_beast_14 : decode cX11_beast 14 = .ok (.tableswitch 94 0 5 #[38, 47, 56, 65, 76, 85], 38) := by decide +kernel
theorem dX11_beast_52 : decode cX11_beast 52 = .ok (.aload_n 0, 1) := by decide +kernel
theorem dX11_beast_53 : decode cX11_beast 53 = .ok (.getfield 19, 3) := by decide +kernel
theorem dX11_beast_56 : decode cX11_beast 56 = .ok (.iload_n 1, 1) := by decide +kernel
theorem dX11_beast_57 : decode cX11_beast 57 = .ok (.invokevirtual 255, 3) := by decide +kernel
theorem dX11_beast_60 : decode cX11_beast 60 = .ok (.ireturn, 1) := by decide +kernel
theorem dX11_beast_61 : decode cX11_beast 61 = .ok (.aload_n 0, 1) := by decide +kernel
theorem dX11_beast_62 : decode cX11_beast 62 = .ok (.getfield 19, 3) := by decide +kernel
theorem dX11_beast_65 : decode cX11_beast 65 = .ok (.iload_n 1, 1) := by decide +kernel
theorem dX11_beast_66 : decode cX11_beast 66 = .ok (.invokevirtual 258, 3) := by decide +kernel
theorem dX11_beast_69 : decode cX11_beast 69 = .ok (.ireturn, 1) := by decide +kernel
theorem dX11_beast_70 : decode cX11_beast 70 = .ok (.aload_n 0, 1) := by decide +kernel
theorem dX11_beast_71 : decode cX11_beast 71 = .ok (.getfield 19, 3) := by decide +kernel
theorem dX11_beast_74 : decode cX11_beast 74 = .ok (.iload_n 1, 1) := by decide +kernel
theorem dX11_beast_75 : decode cX11_beast 75 = .ok (.invokevirtual 261, 3) := by decide +kernel
theorem dX11_beast_78 : decode cX11_beast 78 = .ok (.ireturn, 1) := by decide +kernel
theorem dX11_beast_79 : decode cX11_beast 79 = .ok (.aload_n 0, 1) := by decide +kernel
theorem dX11_beast_80 : decode cX11_beast 80 = .ok (.getfield 58, 3) := by decide +kernel
theorem dX11_beast_83 : decode cX11_beast 83 = .ok (.iconst 1, 1) := by decide +kernel
theorem dX11_beast_84 : decode cX11_beast 84 = .ok (.iload_n 1, 1) := by decide +kernel
theorem dX11_beast_85 : decode cX11_beast 85 = .ok (.ishl, 1) := by decide +kernel
theorem dX11_beast_86 : decode cX11_beast 86 = .ok (.invokevirtual 221, 3) := by decide +kernel
theorem dX11_beast_89 : decode cX11_beast 89 = .ok (.ireturn, 1) := by decide +kernel
theorem dX11_beast_90 : decode cX11_beast 90 = .ok (.aload_n 0, 1) := by decide +kernel
theorem dX11_beast_91 : decode cX11_beast 91 = .ok (.getfield 58, 3) := by decide +kernel
theorem dX11_beast_94 : decode cX11_beast 94 = .ok (.iload_n 1, 1) := by decide +kernel
theorem dX11_beast_95 : decode cX11_beast 95 = .ok (.invokevirtual 264, 3) := by decide +kernel
theorem dX11_beast_98 : decode cX11_beast 98 = .ok (.ireturn, 1) := by decide +kernel
theorem dX11_beast_99 : decode cX11_beast 99 = .ok (.aload_n 0, 1) := by decide +kernel
theorem dX11_beast_100 : decode cX11_beast 100 = .ok (.getfield 58, 3) := by decide +kernel
theorem dX11_beast_103 : decode cX11_beast 103 = .ok (.iload_n 1, 1) := by decide +kernel
theorem dX11_beast_104 : decode cX11_beast 104 = .ok (.invokevirtual 267, 3) := by decide +kernel
theorem dX11_beast_107 : decode cX11_beast 107 = .ok (.ireturn, 1) := by decide +kernel
theorem dX11_beast_108 : decode cX11_beast 108 = .ok (.aload_n 0, 1) := by decide +kernel
theorem dX11_beast_109 : decode cX11_beast 109 = .ok (.getfield 58, 3) := by decide +kernel
theorem dX11_beast_112 : decode cX11_beast 112 = .ok (.iconst 1, 1) := by decide +kernel
theorem dX11_beast_113 : decode cX11_beast 113 = .ok (.iload_n 1, 1) := by decide +kernel
theorem dX11_beast_114 : decode cX11_beast 114 = .ok (.ishl, 1) := by decide +kernel
theorem dX11_beast_115 : decode cX11_beast 115 = .ok (.invokevirtual 225, 3) := by decide +kernel
theorem dX11_beast_118 : decode cX11_beast 118 = .ok (.ireturn, 1) := by decide +kernel
theorem dX11_fair_0 : decode cX11_fair 0 = .ok (.aload_n 0, 1) := by decide +kernel
theorem dX11_fair_1 : decode cX11_fair 1 = .ok (.iload_n 1, 1) := by decide +kernel
theorem dX11_fair_2 : decode cX11_fair 2 = .ok (.aload_n 0, 1) := by decide +kernel
theorem dX11_fair_3 : decode cX11_fair 3 = .ok (.getfield 19, 3) := by decide +kernel
theorem dX11_fair_6 : decode cX11_fair 6 = .ok (.getfield 209, 3) := by decide +kernel
theorem dX11_fair_9 : decode cX11_fair 9 = .ok (.invokevirtual 270, 3) := by decide +kernel
theorem dX11_fair_12 : decode cX11_fair 12 = .ok (.aload_n 0, 1) := by decide +kernel
theorem dX11_fair_13 : decode cX11_fair 13 = .ok (.iload_n 2, 1) := by decide +kernel
theorem dX11_fair_14 : decode cX11_fair 14 = .ok (.iconst 0, 1) := by decide +kernel
theorem dX11_fair_15 : decode cX11_fair 15 = .ok (.iconst 2, 1) := by decide +kernel
theorem dX11_fair_16 : decode cX11_fair 16 = .ok (.invokevirtual 120, 3) := by decide +kernel
theorem dX11_fair_19 : decode cX11_fair 19 = .ok (.aload_n 0, 1) := by decide +kernel
theorem dX11_fair_20 : decode cX11_fair 20 = .ok (.getfield 19, 3) := by decide +kernel
theorem dX11_fair_23 : decode cX11_fair 23 = .ok (.iload_n 1, 1) := by decide +kernel
theorem dX11_fair_24 : decode cX11_fair 24 = .ok (.iload_n 2, 1) := by decide +kernel
theorem dX11_fair_25 : decode cX11_fair 25 = .ok (.invokevirtual 274, 3) := by decide +kernel
theorem dX11_fair_28 : decode cX11_fair 28 = .ok (.ireturn, 1) := by decide +kernel
theorem dX11_cool_0 : decode cX11_cool 0 = .ok (.aload_n 0, 1) := by decide +kernel
theorem dX11_cool_1 : decode cX11_cool 1 = .ok (.iload_n 1, 1) := by decide +kernel
theorem dX11_cool_2 : decode cX11_cool 2 = .ok (.invokevirtual 234, 3) := by decide +kernel
theorem dX11_cool_5 : decode cX11_cool 5 = .ok (.aload_n 0, 1) := by decide +kernel
theorem dX11_cool_6 : decode cX11_cool 6 = .ok (.iload_n 2, 1) := by decide +kernel
theorem dX11_cool_7 : decode cX11_cool 7 = .ok (.invokevirtual 234, 3) := by decide +kernel
theorem dX11_cool_10 : decode cX11_cool 10 = .ok (.aload_n 0, 1) := by decide +kernel
theorem dX11_cool_11 : decode cX11_cool 11 = .ok (.getfield 58, 3) := by decide +kernel
theorem dX11_cool_14 : decode cX11_cool 14 = .ok (.iload_n 1, 1) := by decide +kernel
theorem dX11_cool_15 : decode cX11_cool 15 = .ok (.iload_n 2, 1) := by decide +kernel
theorem dX11_cool_16 : decode cX11_cool 16 = .ok (.invokevirtual 277, 3) := by decide +kernel
theorem dX11_cool_19 : decode cX11_cool 19 = .ok (.ireturn, 1) := by decide +kernel
theorem dX11_would_0 : decode cX11_would 0 = .ok (.aload_n 0, 1) := by decide +kernel
theorem dX11_would_1 : decode cX11_would 1 = .ok (.iload_n 1, 1) := by decide +kernel
theorem dX11_would_2 : decode cX11_would 2 = .ok (.iconst 1, 1) := by decide +kernel
theorem dX11_would_3 : decode cX11_would 3 = .ok (.bipush 30, 2) := by decide +kernel
theorem dX11_would_5 : decode cX11_would 5 = .ok (.invokevirtual 120, 3) := by decide +kernel
theorem dX11_would_8 : decode cX11_would 8 = .ok (.aload_n 0, 1) := by decide +kernel
theorem dX11_would_9 : decode cX11_would 9 = .ok (.iload_n 2, 1) := by decide +kernel
theorem dX11_would_10 : decode cX11_would 10 = .ok (.iconst 0, 1) := by decide +kernel
theorem dX11_would_11 : decode cX11_would 11 = .ok (.iconst 5, 1) := by decide +kernel
theorem dX11_would_12 : decode cX11_would 12 = .ok (.invokevirtual 120, 3) := by decide +kernel
theorem dX11_would_15 : decode cX11_would 15 = .ok (.aload_n 0, 1) := by decide +kernel
theorem dX11_would_16 : decode cX11_would 16 = .ok (.iload_n 3, 1) := by decide +kernel
theorem dX11_would_17 : decode cX11_would 17 = .ok (.iconst 0, 1) := by decide +kernel
theorem dX11_would_18 : decode cX11_would 18 = .ok (.sipush 999, 3) := by decide +kernel
theorem dX11_would_21 : decode cX11_would 21 = .ok (.invokevirtual 120, 3) := by decide +kernel
theorem dX11_would_24 : decode cX11_would 24 = .ok (.aload_n 0, 1) := by decide +kernel
theorem dX11_would_25 : decode cX11_would 25 = .ok (.iload 4, 2) := by decide +kernel
theorem dX11_would_27 : decode cX11_would 27 = .ok (.iconst 0, 1) := by decide +kernel
theorem dX11_would_28 : decode cX11_would 28 = .ok (.bipush 99, 2) := by decide +kernel
theorem dX11_would_30 : decode cX11_would 30 = .ok (.invokevirtual 120, 3) := by decide +kernel
theorem dX11_would_33 : decode cX11_would 33 = .ok (.aload_n 0, 1) := by decide +kernel
theorem dX11_would_34 : decode cX11_would 34 = .ok (.iload 5, 2) := by decide +kernel
theorem dX11_would_36 : decode cX11_would 36 = .ok (.iconst 0, 1) := by decide +kernel
theorem dX11_would_37 : decode cX11_would 37 = .ok (.bipush 12, 2) := by decide +kernel
theorem dX11_would_39 : decode cX11_would 39 = .ok (.invokevirtual 120, 3) := by decide +kernel
theorem dX11_would_42 : decode cX11_would 42 = .ok (.aload_n 0, 1) := by decide +kernel
theorem dX11_would_43 : decode cX11_would 43 = .ok (.iload 6, 2) := by decide +kernel
theorem dX11_would_45 : decode cX11_would 45 = .ok (.iconst 0, 1) := by decide +kernel
theorem dX11_would_46 : decode cX11_would 46 = .ok (.bipush 9, 2) := by decide +kernel
theorem dX11_would_48 : decode cX11_would 48 = .ok (.invokevirtual 120, 3) := by decide +kernel
theorem dX11_would_51 : decode cX11_would 51 = .ok (.aload_n 0, 1) := by decide +kernel
theorem dX11_would_52 : decode cX11_would 52 = .ok (.iload 7, 2) := by decide +kernel
theorem dX11_would_54 : decode cX11_would 54 = .ok (.iconst 0, 1) := by decide +kernel
theorem dX11_would_55 : decode cX11_would 55 = .ok (.sipush 400, 3) := by decide +kernel
theorem dX11_would_58 : decode cX11_would 58 = .ok (.invokevirtual 120, 3) := by decide +kernel
theorem dX11_would_61 : decode cX11_would 61 = .ok (.aload_n 0, 1) := by decide +kernel
theorem dX11_would_62 : decode cX11_would 62 = .ok (.iload 8, 2) := by decide +kernel
theorem dX11_would_64 : decode cX11_would 64 = .ok (.iconst 0, 1) := by decide +kernel
theorem dX11_would_65 : decode cX11_would 65 = .ok (.bipush 12, 2) := by decide +kernel
theorem dX11_would_67 : decode cX11_would 67 = .ok (.invokevirtual 120, 3) := by decide +kernel
theorem dX11_would_70 : decode cX11_would 70 = .ok (.aload_n 0, 1) := by decide +kernel
theorem dX11_would_71 : decode cX11_would 71 = .ok (.getfield 29, 3) := by decide +kernel
theorem dX11_would_74 : decode cX11_would 74 = .ok (.iload_n 1, 1) := by decide +kernel
theorem dX11_would_75 : decode cX11_would 75 = .ok (.iload_n 2, 1) := by decide +kernel
theorem dX11_would_76 : decode cX11_would 76 = .ok (.iload_n 3, 1) := by decide +kernel
theorem dX11_would_77 : decode cX11_would 77 = .ok (.iload 8, 2) := by decide +kernel
theorem dX11_would_79 : decode cX11_would 79 = .ok (.invokevirtual 280, 3) := by decide +kernel
theorem dX11_would_82 : decode cX11_would 82 = .ok (.aload_n 0, 1) := by decide +kernel
theorem dX11_would_83 : decode cX11_would 83 = .ok (.getfield 29, 3) := by decide +kernel
theorem dX11_would_86 : decode cX11_would 86 = .ok (.iload 4, 2) := by decide +kernel
theorem dX11_would_88 : decode cX11_would 88 = .ok (.iload 5, 2) := by decide +kernel
theorem dX11_would_90 : decode cX11_would 90 = .ok (.iload 6, 2) := by decide +kernel
theorem dX11_would_92 : decode cX11_would 92 = .ok (.iload 7, 2) := by decide +kernel
theorem dX11_would_94 : decode cX11_would 94 = .ok (.invokevirtual 284, 3) := by decide +kernel
theorem dX11_would_97 : decode cX11_would 97 = .ok (.aload_n 0, 1) := by decide +kernel
theorem dX11_would_98 : decode cX11_would 98 = .ok (.getfield 29, 3) := by decide +kernel
theorem dX11_would_101 : decode cX11_would 101 = .ok (.invokevirtual 287, 3) := by decide +kernel
theorem dX11_would_104 : decode cX11_would 104 = .ok (.ireturn, 1) := by decide +kernel
theorem dX11_ahead_0 : decode cX11_ahead 0 = .ok (.aload_n 0, 1) := by decide +kernel
theorem dX11_ahead_1 : decode cX11_ahead 1 = .ok (.iload_n 1, 1) := by decide +kernel
theorem dX11_ahead_2 : decode cX11_ahead 2 = .ok (.iconst 0, 1) := by decide +kernel
theorem dX11_ahead_3 : decode cX11_ahead 3 = .ok (.bipush 99, 2) := by decide +kernel
theorem dX11_ahead_5 : decode cX11_ahead 5 = .ok (.invokevirtual 120, 3) := by decide +kernel
theorem dX11_ahead_8 : decode cX11_ahead 8 = .ok (.aload_n 0, 1) := by decide +kernel
theorem dX11_ahead_9 : decode cX11_ahead 9 = .ok (.iload_n 2, 1) := by decide +kernel
theorem dX11_ahead_10 : decode cX11_ahead 10 = .ok (.iconst 0, 1) := by decide +kernel
theorem dX11_ahead_11 : decode cX11_ahead 11 = .ok (.iconst 2, 1) := by decide +kernel
theorem dX11_ahead_12 : decode cX11_ahead 12 = .ok (.invokevirtual 120, 3) := by decide +kernel
theorem dX11_ahead_15 : decode cX11_ahead 15 = .ok (.aload_n 0, 1) := by decide +kernel
theorem dX11_ahead_16 : decode cX11_ahead 16 = .ok (.getfield 62, 3) := by decide +kernel
theorem dX11_ahead_19 : decode cX11_ahead 19 = .ok (.aload_n 0, 1) := by decide +kernel
theorem dX11_ahead_20 : decode cX11_ahead 20 = .ok (.getfield 58, 3) := by decide +kernel
theorem dX11_ahead_23 : decode cX11_ahead 23 = .ok (.invokevirtual 290, 3) := by decide +kernel
theorem dX11_ahead_26 : decode cX11_ahead 26 = .ok (.iconst 0, 1) := by decide +kernel
theorem dX11_ahead_27 : decode cX11_ahead 27 = .ok (.istore_n 3, 1) := by decide +kernel
theorem dX11_ahead_28 : decode cX11_ahead 28 = .ok (.iload_n 3, 1) := by decide +kernel
theorem dX11_ahead_29 : decode cX11_ahead 29 = .ok (.iload_n 1, 1) := by decide +kernel
theorem dX11_ahead_30 : decode cX11_ahead 30 = .ok (.if_icmp .ge 16, 3) := by decide +kernel
theorem dX11_ahead_33 : decode cX11_ahead 33 = .ok (.aload_n 0, 1) := by decide +kernel
theorem dX11_ahead_34 : decode cX11_ahead 34 = .ok (.getfield 62, 3) := by decide +kernel
theorem dX11_ahead_37 : decode cX11_ahead 37 = .ok (.invokevirtual 293, 3) := by decide +kernel
theorem dX11_ahead_40 : decode cX11_ahead 40 = .ok (.iinc 3 1, 3) := by decide +kernel
theorem dX11_ahead_43 : decode cX11_ahead 43 = .ok (.goto (-15), 3) := by decide +kernel
theorem dX11_ahead_46 : decode cX11_ahead 46 = .ok (.iload_n 2, 1) := by decide +kernel
theorem dX11_ahead_47 : decode cX11_ahead 47 = .ok (.lookupswitch 41 #[(0, 25), (1, 33)], 25) := by decide +kernel
theorem dX11_ahead_72 : decode cX11_ahead 72 = .ok (.aload_n 0, 1) := by decide +kernel
theorem dX11_ahead_73 : decode cX11_ahead 73 = .ok (.getfield 62, 3) := by decide +kernel
theorem dX11_ahead_76 : decode cX11_ahead 76 = .ok (.invokevirtual 218, 3) := by decide +kernel
theorem dX11_ahead_79 : decode cX11_ahead 79 = .ok (.ireturn, 1) := by decide +kernel
theorem dX11_ahead_80 : decode cX11_ahead 80 = .ok (.aload_n 0, 1) := by decide +kernel
theorem dX11_ahead_81 : decode cX11_ahead 81 = .ok (.getfield 62, 3) := by decide +kernel
theorem dX11_ahead_84 : decode cX11_ahead 84 = .ok (.invokevirtual 215, 3) := by decide +kernel
theorem dX11_ahead_87 : decode cX11_ahead 87 = .ok (.ireturn, 1) := by decide +kernel
theorem dX11_ahead_88 : decode cX11_ahead 88 = .ok (.aload_n 0, 1) := by decide +kernel
theorem dX11_ahead_89 : decode cX11_ahead 89 = .ok (.getfield 62, 3) := by decide +kernel
theorem dX11_ahead_92 : decode cX11_ahead 92 = .ok (.aload_n 0, 1) := by decide +kernel
theorem dX11_ahead_93 : decode cX11_ahead 93 = .ok (.getfield 62, 3) := by decide +kernel
theorem dX11_ahead_96 : decode cX11_ahead 96 = .ok (.invokevirtual 215, 3) := by decide +kernel
theorem dX11_ahead_99 : decode cX11_ahead 99 = .ok (.invokevirtual 221, 3) := by decide +kernel
theorem dX11_ahead_102 : decode cX11_ahead 102 = .ok (.ireturn, 1) := by decide +kernel
theorem dX11_bare_0 : decode cX11_bare 0 = .ok (.aload_n 0, 1) := by decide +kernel
theorem dX11_bare_1 : decode cX11_bare 1 = .ok (.iload_n 1, 1) := by decide +kernel
theorem dX11_bare_2 : decode cX11_bare 2 = .ok (.invokevirtual 234, 3) := by decide +kernel
theorem dX11_bare_5 : decode cX11_bare 5 = .ok (.aload_n 0, 1) := by decide +kernel
theorem dX11_bare_6 : decode cX11_bare 6 = .ok (.getfield 62, 3) := by decide +kernel
theorem dX11_bare_9 : decode cX11_bare 9 = .ok (.aload_n 0, 1) := by decide +kernel
theorem dX11_bare_10 : decode cX11_bare 10 = .ok (.getfield 58, 3) := by decide +kernel
theorem dX11_bare_13 : decode cX11_bare 13 = .ok (.invokevirtual 290, 3) := by decide +kernel
theorem dX11_bare_16 : decode cX11_bare 16 = .ok (.aload_n 0, 1) := by decide +kernel
theorem dX11_bare_17 : decode cX11_bare 17 = .ok (.getfield 62, 3) := by decide +kernel
theorem dX11_bare_20 : decode cX11_bare 20 = .ok (.iload_n 1, 1) := by decide +kernel
theorem dX11_bare_21 : decode cX11_bare 21 = .ok (.invokevirtual 296, 3) := by decide +kernel
theorem dX11_bare_24 : decode cX11_bare 24 = .ok (.iconst 0, 1) := by decide +kernel
theorem dX11_bare_25 : decode cX11_bare 25 = .ok (.istore_n 2, 1) := by decide +kernel
theorem dX11_bare_26 : decode cX11_bare 26 = .ok (.iload_n 2, 1) := by decide +kernel
theorem dX11_bare_27 : decode cX11_bare 27 = .ok (.bipush 99, 2) := by decide +kernel
theorem dX11_bare_29 : decode cX11_bare 29 = .ok (.if_icmp .gt 29, 3) := by decide +kernel
theorem dX11_bare_32 : decode cX11_bare 32 = .ok (.aload_n 0, 1) := by decide +kernel
theorem dX11_bare_33 : decode cX11_bare 33 = .ok (.getfield 62, 3) := by decide +kernel
theorem dX11_bare_36 : decode cX11_bare 36 = .ok (.iload_n 1, 1) := by decide +kernel
theorem dX11_bare_37 : decode cX11_bare 37 = .ok (.invokevirtual 237, 3) := by decide +kernel
theorem dX11_bare_40 : decode cX11_bare 40 = .ok (.ifCond .ne 5, 3) := by decide +kernel
theorem dX11_bare_43 : decode cX11_bare 43 = .ok (.iload_n 2, 1) := by decide +kernel
theorem dX11_bare_44 : decode cX11_bare 44 = .ok (.ireturn, 1) := by decide +kernel
theorem dX11_bare_45 : decode cX11_bare 45 = .ok (.aload_n 0, 1) := by decide +kernel
theorem dX11_bare_46 : decode cX11_bare 46 = .ok (.getfield 62, 3) := by decide +kernel
theorem dX11_bare_49 : decode cX11_bare 49 = .ok (.invokevirtual 293, 3) := by decide +kernel
theorem dX11_bare_52 : decode cX11_bare 52 = .ok (.iinc 2 1, 3) := by decide +kernel
theorem dX11_bare_55 : decode cX11_bare 55 = .ok (.goto (-29), 3) := by decide +kernel
theorem dX11_bare_58 : decode cX11_bare 58 = .ok (.iconst (-1), 1) := by decide +kernel
theorem dX11_bare_59 : decode cX11_bare 59 = .ok (.ireturn, 1) := by decide +kernel
theorem dX11_cancel_0 : decode cX11_cancel 0 = .ok (.aload_n 0, 1) := by decide +kernel
theorem dX11_cancel_1 : decode cX11_cancel 1 = .ok (.getfield 77, 3) := by decide +kernel
theorem dX11_cancel_4 : decode cX11_cancel 4 = .ok (.invokevirtual 299, 3) := by decide +kernel
theorem dX11_cancel_7 : decode cX11_cancel 7 = .ok (.ireturn, 1) := by decide +kernel
theorem dX11_herd_0 : decode cX11_herd 0 = .ok (.aload_n 0, 1) := by decide +kernel
theorem dX11_herd_1 : decode cX11_herd 1 = .ok (.iload_n 1, 1) := by decide +kernel
theorem dX11_herd_2 : decode cX11_herd 2 = .ok (.invokevirtual 234, 3) := by decide +kernel
theorem dX11_herd_5 : decode cX11_herd 5 = .ok (.aload_n 0, 1) := by decide +kernel
theorem dX11_herd_6 : decode cX11_herd 6 = .ok (.iload_n 2, 1) := by decide +kernel
theorem dX11_herd_7 : decode cX11_herd 7 = .ok (.iconst 0, 1) := by decide +kernel
theorem dX11_herd_8 : decode cX11_herd 8 = .ok (.iconst 1, 1) := by decide +kernel
theorem dX11_herd_9 : decode cX11_herd 9 = .ok (.invokevirtual 120, 3) := by decide +kernel
theorem dX11_herd_12 : decode cX11_herd 12 = .ok (.aload_n 0, 1) := by decide +kernel
theorem dX11_herd_13 : decode cX11_herd 13 = .ok (.getfield 77, 3) := by decide +kernel
theorem dX11_herd_16 : decode cX11_herd 16 = .ok (.aload_n 0, 1) := by decide +kernel
theorem dX11_herd_17 : decode cX11_herd 17 = .ok (.getfield 58, 3) := by decide +kernel
theorem dX11_herd_20 : decode cX11_herd 20 = .ok (.iload_n 1, 1) := by decide +kernel
theorem dX11_herd_21 : decode cX11_herd 21 = .ok (.invokevirtual 237, 3) := by decide +kernel
theorem dX11_herd_24 : decode cX11_herd 24 = .ok (.invokevirtual 302, 3) := by decide +kernel
theorem dX11_herd_27 : decode cX11_herd 27 = .ok (.istore_n 3, 1) := by decide +kernel
theorem dX11_herd_28 : decode cX11_herd 28 = .ok (.iload_n 2, 1) := by decide +kernel
theorem dX11_herd_29 : decode cX11_herd 29 = .ok (.ifCond .ne 14, 3) := by decide +kernel
theorem dX11_herd_32 : decode cX11_herd 32 = .ok (.aload_n 0, 1) := by decide +kernel
theorem dX11_herd_33 : decode cX11_herd 33 = .ok (.getfield 58, 3) := by decide +kernel
theorem dX11_herd_36 : decode cX11_herd 36 = .ok (.iload_n 3, 1) := by decide +kernel
theorem dX11_herd_37 : decode cX11_herd 37 = .ok (.invokevirtual 221, 3) := by decide +kernel
theorem dX11_herd_40 : decode cX11_herd 40 = .ok (.goto 4, 3) := by decide +kernel
theorem dX11_herd_43 : decode cX11_herd 43 = .ok (.iload_n 3, 1) := by decide +kernel
theorem dX11_herd_44 : decode cX11_herd 44 = .ok (.ireturn, 1) := by decide +kernel
theorem dX11_paid_0 : decode cX11_paid 0 = .ok (.aload_n 0, 1) := by decide +kernel
theorem dX11_paid_1 : decode cX11_paid 1 = .ok (.iload_n 1, 1) := by decide +kernel
theorem dX11_paid_2 : decode cX11_paid 2 = .ok (.invokevirtual 252, 3) := by decide +kernel
theorem dX11_paid_5 : decode cX11_paid 5 = .ok (.aload_n 0, 1) := by decide +kernel
theorem dX11_paid_6 : decode cX11_paid 6 = .ok (.iload_n 2, 1) := by decide +kernel
theorem dX11_paid_7 : decode cX11_paid 7 = .ok (.iconst 0, 1) := by decide +kernel
theorem dX11_paid_8 : decode cX11_paid 8 = .ok (.iconst 1, 1) := by decide +kernel
theorem dX11_paid_9 : decode cX11_paid 9 = .ok (.invokevirtual 120, 3) := by decide +kernel
theorem dX11_paid_12 : decode cX11_paid 12 = .ok (.aload_n 0, 1) := by decide +kernel
theorem dX11_paid_13 : decode cX11_paid 13 = .ok (.getfield 77, 3) := by decide +kernel
theorem dX11_paid_16 : decode cX11_paid 16 = .ok (.iload_n 1, 1) := by decide +kernel
theorem dX11_paid_17 : decode cX11_paid 17 = .ok (.invokevirtual 305, 3) := by decide +kernel
theorem dX11_paid_20 : decode cX11_paid 20 = .ok (.iload_n 2, 1) := by decide +kernel
theorem dX11_paid_21 : decode cX11_paid 21 = .ok (.ifCond .ne 13, 3) := by decide +kernel
theorem dX11_paid_24 : decode cX11_paid 24 = .ok (.aload_n 0, 1) := by decide +kernel
theorem dX11_paid_25 : decode cX11_paid 25 = .ok (.getfield 77, 3) := by decide +kernel
theorem dX11_paid_28 : decode cX11_paid 28 = .ok (.getfield 308, 3) := by decide +kernel
theorem dX11_paid_31 : decode cX11_paid 31 = .ok (.goto 10, 3) := by decide +kernel
theorem dX11_paid_34 : decode cX11_paid 34 = .ok (.aload_n 0, 1) := by decide +kernel
theorem dX11_paid_35 : decode cX11_paid 35 = .ok (.getfield 77, 3) := by decide +kernel
theorem dX11_paid_38 : decode cX11_paid 38 = .ok (.getfield 311, 3) := by decide +kernel
theorem dX11_paid_41 : decode cX11_paid 41 = .ok (.ireturn, 1) := by decide +kernel
theorem dX11_unseen_0 : decode cX11_unseen 0 = .ok (.aload_n 0, 1) := by decide +kernel
theorem dX11_unseen_1 : decode cX11_unseen 1 = .ok (.iload_n 1, 1) := by decide +kernel
theorem dX11_unseen_2 : decode cX11_unseen 2 = .ok (.invokevirtual 234, 3) := by decide +kernel
theorem dX11_unseen_5 : decode cX11_unseen 5 = .ok (.aload_n 0, 1) := by decide +kernel
theorem dX11_unseen_6 : decode cX11_unseen 6 = .ok (.iload_n 2, 1) := by decide +kernel
theorem dX11_unseen_7 : decode cX11_unseen 7 = .ok (.iconst 0, 1) := by decide +kernel
theorem dX11_unseen_8 : decode cX11_unseen 8 = .ok (.iconst 1, 1) := by decide +kernel
theorem dX11_unseen_9 : decode cX11_unseen 9 = .ok (.invokevirtual 120, 3) := by decide +kernel
theorem dX11_unseen_12 : decode cX11_unseen 12 = .ok (.aload_n 0, 1) := by decide +kernel
theorem dX11_unseen_13 : decode cX11_unseen 13 = .ok (.getfield 86, 3) := by decide +kernel
theorem dX11_unseen_16 : decode cX11_unseen 16 = .ok (.iload_n 1, 1) := by decide +kernel
theorem dX11_unseen_17 : decode cX11_unseen 17 = .ok (.invokevirtual 314, 3) := by decide +kernel
theorem dX11_unseen_20 : decode cX11_unseen 20 = .ok (.iload_n 2, 1) := by decide +kernel
theorem dX11_unseen_21 : decode cX11_unseen 21 = .ok (.ifCond .ne 13, 3) := by decide +kernel
theorem dX11_unseen_24 : decode cX11_unseen 24 = .ok (.aload_n 0, 1) := by decide +kernel
theorem dX11_unseen_25 : decode cX11_unseen 25 = .ok (.getfield 86, 3) := by decide +kernel
theorem dX11_unseen_28 : decode cX11_unseen 28 = .ok (.getfield 317, 3) := by decide +kernel
theorem dX11_unseen_31 : decode cX11_unseen 31 = .ok (.goto 10, 3) := by decide +kernel
theorem dX11_unseen_34 : decode cX11_unseen 34 = .ok (.aload_n 0, 1) := by decide +kernel
theorem dX11_unseen_35 : decode cX11_unseen 35 = .ok (.getfield 86, 3) := by decide +kernel
theorem dX11_unseen_38 : decode cX11_unseen 38 = .ok (.getfield 320, 3) := by decide +kernel
theorem dX11_unseen_41 : decode cX11_unseen 41 = .ok (.ireturn, 1) := by decide +kernel
theorem dX11_look_0 : decode cX11_look 0 = .ok (.aload_n 0, 1) := by decide +kernel
theorem dX11_look_1 : decode cX11_look 1 = .ok (.iload_n 1, 1) := by decide +kernel
theorem dX11_look_2 : decode cX11_look 2 = .ok (.invokevirtual 234, 3) := by decide +kernel
theorem dX11_look_5 : decode cX11_look 5 = .ok (.aload_n 0, 1) := by decide +kernel
theorem dX11_look_6 : decode cX11_look 6 = .ok (.iload_n 2, 1) := by decide +kernel
theorem dX11_look_7 : decode cX11_look 7 = .ok (.iconst 0, 1) := by decide +kernel
theorem dX11_look_8 : decode cX11_look 8 = .ok (.iconst 1, 1) := by decide +kernel
theorem dX11_look_9 : decode cX11_look 9 = .ok (.invokevirtual 120, 3) := by decide +kernel
theorem dX11_look_12 : decode cX11_look 12 = .ok (.aload_n 0, 1) := by decide +kernel
theorem dX11_look_13 : decode cX11_look 13 = .ok (.getfield 86, 3) := by decide +kernel
theorem dX11_look_16 : decode cX11_look 16 = .ok (.iload_n 1, 1) := by decide +kernel
theorem dX11_look_17 : decode cX11_look 17 = .ok (.invokevirtual 323, 3) := by decide +kernel
theorem dX11_look_20 : decode cX11_look 20 = .ok (.iload_n 2, 1) := by decide +kernel
theorem dX11_look_21 : decode cX11_look 21 = .ok (.ifCond .ne 13, 3) := by decide +kernel
theorem dX11_look_24 : decode cX11_look 24 = .ok (.aload_n 0, 1) := by decide +kernel
theorem dX11_look_25 : decode cX11_look 25 = .ok (.getfield 86, 3) := by decide +kernel
theorem dX11_look_28 : decode cX11_look 28 = .ok (.getfield 326, 3) := by decide +kernel
theorem dX11_look_31 : decode cX11_look 31 = .ok (.goto 10, 3) := by decide +kernel
theorem dX11_look_34 : decode cX11_look 34 = .ok (.aload_n 0, 1) := by decide +kernel
theorem dX11_look_35 : decode cX11_look 35 = .ok (.getfield 86, 3) := by decide +kernel
theorem dX11_look_38 : decode cX11_look 38 = .ok (.getfield 329, 3) := by decide +kernel
theorem dX11_look_41 : decode cX11_look 41 = .ok (.ireturn, 1) := by decide +kernel
theorem dX11_way_0 : decode cX11_way 0 = .ok (.aload_n 0, 1) := by decide +kernel
theorem dX11_way_1 : decode cX11_way 1 = .ok (.iload_n 1, 1) := by decide +kernel
theorem dX11_way_2 : decode cX11_way 2 = .ok (.invokevirtual 234, 3) := by decide +kernel
theorem dX11_way_5 : decode cX11_way 5 = .ok (.aload_n 0, 1) := by decide +kernel
theorem dX11_way_6 : decode cX11_way 6 = .ok (.iload_n 2, 1) := by decide +kernel
theorem dX11_way_7 : decode cX11_way 7 = .ok (.invokevirtual 234, 3) := by decide +kernel
theorem dX11_way_10 : decode cX11_way 10 = .ok (.iconst 1, 1) := by decide +kernel
theorem dX11_way_11 : decode cX11_way 11 = .ok (.iload_n 1, 1) := by decide +kernel
theorem dX11_way_12 : decode cX11_way 12 = .ok (.ishl, 1) := by decide +kernel
theorem dX11_way_13 : decode cX11_way 13 = .ok (.istore_n 3, 1) := by decide +kernel
theorem dX11_way_14 : decode cX11_way 14 = .ok (.iconst 0, 1) := by decide +kernel
theorem dX11_way_15 : decode cX11_way 15 = .ok (.istore 4, 2) := by decide +kernel
theorem dX11_way_17 : decode cX11_way 17 = .ok (.iload 4, 2) := by decide +kernel
theorem dX11_way_19 : decode cX11_way 19 = .ok (.bipush 6, 2) := by decide +kernel
theorem dX11_way_21 : decode cX11_way 21 = .ok (.if_icmp .ge 38, 3) := by decide +kernel
theorem dX11_way_24 : decode cX11_way 24 = .ok (.iload_n 3, 1) := by decide +kernel
theorem dX11_way_25 : decode cX11_way 25 = .ok (.iconst 1, 1) := by decide +kernel
theorem dX11_way_26 : decode cX11_way 26 = .ok (.iload_n 2, 1) := by decide +kernel
theorem dX11_way_27 : decode cX11_way 27 = .ok (.ishl, 1) := by decide +kernel
theorem dX11_way_28 : decode cX11_way 28 = .ok (.iand, 1) := by decide +kernel
theorem dX11_way_29 : decode cX11_way 29 = .ok (.ifCond .eq 6, 3) := by decide +kernel
theorem dX11_way_32 : decode cX11_way 32 = .ok (.iload 4, 2) := by decide +kernel
theorem dX11_way_34 : decode cX11_way 34 = .ok (.ireturn, 1) := by decide +kernel
theorem dX11_way_35 : decode cX11_way 35 = .ok (.iload_n 3, 1) := by decide +kernel
theorem dX11_way_36 : decode cX11_way 36 = .ok (.aload_n 0, 1) := by decide +kernel
theorem dX11_way_37 : decode cX11_way 37 = .ok (.getfield 19, 3) := by decide +kernel
theorem dX11_way_40 : decode cX11_way 40 = .ok (.iload_n 3, 1) := by decide +kernel
theorem dX11_way_41 : decode cX11_way 41 = .ok (.aload_n 0, 1) := by decide +kernel
theorem dX11_way_42 : decode cX11_way 42 = .ok (.getfield 58, 3) := by decide +kernel
theorem dX11_way_45 : decode cX11_way 45 = .ok (.invokevirtual 215, 3) := by decide +kernel
theorem dX11_way_48 : decode cX11_way 48 = .ok (.invokevirtual 332, 3) := by decide +kernel
theorem dX11_way_51 : decode cX11_way 51 = .ok (.ior, 1) := by decide +kernel
theorem dX11_way_52 : decode cX11_way 52 = .ok (.istore_n 3, 1) := by decide +kernel
theorem dX11_way_53 : decode cX11_way 53 = .ok (.iinc 4 1, 3) := by decide +kernel
theorem dX11_way_56 : decode cX11_way 56 = .ok (.goto (-39), 3) := by decide +kernel
theorem dX11_way_59 : decode cX11_way 59 = .ok (.iconst (-1), 1) := by decide +kernel
theorem dX11_way_60 : decode cX11_way 60 = .ok (.ireturn, 1) := by decide +kernel
theorem dX11_round_0 : decode cX11_round 0 = .ok (.aload_n 0, 1) := by decide +kernel
theorem dX11_round_1 : decode cX11_round 1 = .ok (.iload_n 1, 1) := by decide +kernel
theorem dX11_round_2 : decode cX11_round 2 = .ok (.invokevirtual 234, 3) := by decide +kernel
theorem dX11_round_5 : decode cX11_round 5 = .ok (.iconst 1, 1) := by decide +kernel
theorem dX11_round_6 : decode cX11_round 6 = .ok (.iload_n 1, 1) := by decide +kernel
theorem dX11_round_7 : decode cX11_round 7 = .ok (.ishl, 1) := by decide +kernel
theorem dX11_round_8 : decode cX11_round 8 = .ok (.istore_n 2, 1) := by decide +kernel
theorem dX11_round_9 : decode cX11_round 9 = .ok (.iconst 1, 1) := by decide +kernel
theorem dX11_round_10 : decode cX11_round 10 = .ok (.istore_n 3, 1) := by decide +kernel
theorem dX11_round_11 : decode cX11_round 11 = .ok (.iload_n 3, 1) := by decide +kernel
theorem dX11_round_12 : decode cX11_round 12 = .ok (.bipush 6, 2) := by decide +kernel
theorem dX11_round_14 : decode cX11_round 14 = .ok (.if_icmp .ge 27, 3) := by decide +kernel
theorem dX11_round_17 : decode cX11_round 17 = .ok (.iload_n 2, 1) := by decide +kernel
theorem dX11_round_18 : decode cX11_round 18 = .ok (.aload_n 0, 1) := by decide +kernel
theorem dX11_round_19 : decode cX11_round 19 = .ok (.getfield 19, 3) := by decide +kernel
theorem dX11_round_22 : decode cX11_round 22 = .ok (.iload_n 2, 1) := by decide +kernel
theorem dX11_round_23 : decode cX11_round 23 = .ok (.aload_n 0, 1) := by decide +kernel
theorem dX11_round_24 : decode cX11_round 24 = .ok (.getfield 58, 3) := by decide +kernel
theorem dX11_round_27 : decode cX11_round 27 = .ok (.invokevirtual 215, 3) := by decide +kernel
theorem dX11_round_30 : decode cX11_round 30 = .ok (.invokevirtual 332, 3) := by decide +kernel
theorem dX11_round_33 : decode cX11_round 33 = .ok (.ior, 1) := by decide +kernel
theorem dX11_round_34 : decode cX11_round 34 = .ok (.istore_n 2, 1) := by decide +kernel
theorem dX11_round_35 : decode cX11_round 35 = .ok (.iinc 3 1, 3) := by decide +kernel
theorem dX11_round_38 : decode cX11_round 38 = .ok (.goto (-27), 3) := by decide +kernel
theorem dX11_round_41 : decode cX11_round 41 = .ok (.iload_n 2, 1) := by decide +kernel
theorem dX11_round_42 : decode cX11_round 42 = .ok (.ireturn, 1) := by decide +kernel
theorem dX11_price_0 : decode cX11_price 0 = .ok (.aload_n 0, 1) := by decide +kernel
theorem dX11_price_1 : decode cX11_price 1 = .ok (.iload_n 1, 1) := by decide +kernel
theorem dX11_price_2 : decode cX11_price 2 = .ok (.iconst 0, 1) := by decide +kernel
theorem dX11_price_3 : decode cX11_price 3 = .ok (.iconst 5, 1) := by decide +kernel
theorem dX11_price_4 : decode cX11_price 4 = .ok (.invokevirtual 120, 3) := by decide +kernel
theorem dX11_price_7 : decode cX11_price 7 = .ok (.aload_n 0, 1) := by decide +kernel
theorem dX11_price_8 : decode cX11_price 8 = .ok (.iload_n 2, 1) := by decide +kernel
theorem dX11_price_9 : decode cX11_price 9 = .ok (.iconst 0, 1) := by decide +kernel
theorem dX11_price_10 : decode cX11_price 10 = .ok (.iconst 5, 1) := by decide +kernel
theorem dX11_price_11 : decode cX11_price 11 = .ok (.invokevirtual 120, 3) := by decide +kernel
theorem dX11_price_14 : decode cX11_price 14 = .ok (.aload_n 0, 1) := by decide +kernel
theorem dX11_price_15 : decode cX11_price 15 = .ok (.getfield 19, 3) := by decide +kernel
theorem dX11_price_18 : decode cX11_price 18 = .ok (.iload_n 1, 1) := by decide +kernel
theorem dX11_price_19 : decode cX11_price 19 = .ok (.iload_n 2, 1) := by decide +kernel
theorem dX11_price_20 : decode cX11_price 20 = .ok (.invokevirtual 335, 3) := by decide +kernel
theorem dX11_price_23 : decode cX11_price 23 = .ok (.ireturn, 1) := by decide +kernel
theorem dX11_owing_0 : decode cX11_owing 0 = .ok (.aload_n 0, 1) := by decide +kernel
theorem dX11_owing_1 : decode cX11_owing 1 = .ok (.iload_n 1, 1) := by decide +kernel
theorem dX11_owing_2 : decode cX11_owing 2 = .ok (.iconst 0, 1) := by decide +kernel
theorem dX11_owing_3 : decode cX11_owing 3 = .ok (.bipush 99, 2) := by decide +kernel
theorem dX11_owing_5 : decode cX11_owing 5 = .ok (.invokevirtual 120, 3) := by decide +kernel
theorem dX11_owing_8 : decode cX11_owing 8 = .ok (.aload_n 0, 1) := by decide +kernel
theorem dX11_owing_9 : decode cX11_owing 9 = .ok (.iload_n 2, 1) := by decide +kernel
theorem dX11_owing_10 : decode cX11_owing 10 = .ok (.iconst 0, 1) := by decide +kernel
theorem dX11_owing_11 : decode cX11_owing 11 = .ok (.bipush 99, 2) := by decide +kernel
theorem dX11_owing_13 : decode cX11_owing 13 = .ok (.invokevirtual 120, 3) := by decide +kernel
theorem dX11_owing_16 : decode cX11_owing 16 = .ok (.aload_n 0, 1) := by decide +kernel
theorem dX11_owing_17 : decode cX11_owing 17 = .ok (.iload_n 3, 1) := by decide +kernel
theorem dX11_owing_18 : decode cX11_owing 18 = .ok (.iconst 0, 1) := by decide +kernel
theorem dX11_owing_19 : decode cX11_owing 19 = .ok (.iconst 2, 1) := by decide +kernel
theorem dX11_owing_20 : decode cX11_owing 20 = .ok (.invokevirtual 120, 3) := by decide +kernel
theorem dX11_owing_23 : decode cX11_owing 23 = .ok (.iload_n 3, 1) := by decide +kernel
theorem dX11_owing_24 : decode cX11_owing 24 = .ok (.lookupswitch 40 #[(0, 28), (1, 34)], 28) := by decide +kernel
theorem dX11_owing_52 : decode cX11_owing 52 = .ok (.iload_n 1, 1) := by decide +kernel
theorem dX11_owing_53 : decode cX11_owing 53 = .ok (.iload_n 2, 1) := by decide +kernel
theorem dX11_owing_54 : decode cX11_owing 54 = .ok (.invokestatic 338, 3) := by decide +kernel
theorem dX11_owing_57 : decode cX11_owing 57 = .ok (.ireturn, 1) := by decide +kernel
theorem dX11_owing_58 : decode cX11_owing 58 = .ok (.iload_n 1, 1) := by decide +kernel
theorem dX11_owing_59 : decode cX11_owing 59 = .ok (.iload_n 2, 1) := by decide +kernel
theorem dX11_owing_60 : decode cX11_owing 60 = .ok (.invokestatic 343, 3) := by decide +kernel
theorem dX11_owing_63 : decode cX11_owing 63 = .ok (.ireturn, 1) := by decide +kernel
theorem dX11_owing_64 : decode cX11_owing 64 = .ok (.iload_n 1, 1) := by decide +kernel
theorem dX11_owing_65 : decode cX11_owing 65 = .ok (.iload_n 2, 1) := by decide +kernel
theorem dX11_owing_66 : decode cX11_owing 66 = .ok (.invokestatic 343, 3) := by decide +kernel
theorem dX11_owing_69 : decode cX11_owing 69 = .ok (.iload_n 1, 1) := by decide +kernel
theorem dX11_owing_70 : decode cX11_owing 70 = .ok (.iload_n 2, 1) := by decide +kernel
theorem dX11_owing_71 : decode cX11_owing 71 = .ok (.invokestatic 346, 3) := by decide +kernel
theorem dX11_owing_74 : decode cX11_owing 74 = .ok (.ireturn, 1) := by decide +kernel
theorem dX11_home_0 : decode cX11_home 0 = .ok (.aload_n 0, 1) := by decide +kernel
theorem dX11_home_1 : decode cX11_home 1 = .ok (.iload_n 1, 1) := by decide +kernel
theorem dX11_home_2 : decode cX11_home 2 = .ok (.iconst 0, 1) := by decide +kernel
theorem dX11_home_3 : decode cX11_home 3 = .ok (.bipush 12, 2) := by decide +kernel
theorem dX11_home_5 : decode cX11_home 5 = .ok (.invokevirtual 120, 3) := by decide +kernel
theorem dX11_home_8 : decode cX11_home 8 = .ok (.aload_n 0, 1) := by decide +kernel
theorem dX11_home_9 : decode cX11_home 9 = .ok (.iload_n 2, 1) := by decide +kernel
theorem dX11_home_10 : decode cX11_home 10 = .ok (.iconst 0, 1) := by decide +kernel
theorem dX11_home_11 : decode cX11_home 11 = .ok (.bipush 12, 2) := by decide +kernel
theorem dX11_home_13 : decode cX11_home 13 = .ok (.invokevirtual 120, 3) := by decide +kernel
theorem dX11_home_16 : decode cX11_home 16 = .ok (.aload_n 0, 1) := by decide +kernel
theorem dX11_home_17 : decode cX11_home 17 = .ok (.iload_n 3, 1) := by decide +kernel
theorem dX11_home_18 : decode cX11_home 18 = .ok (.iconst 0, 1) := by decide +kernel
theorem dX11_home_19 : decode cX11_home 19 = .ok (.bipush 16, 2) := by decide +kernel
theorem dX11_home_21 : decode cX11_home 21 = .ok (.invokevirtual 120, 3) := by decide +kernel
theorem dX11_home_24 : decode cX11_home 24 = .ok (.aload_n 0, 1) := by decide +kernel
theorem dX11_home_25 : decode cX11_home 25 = .ok (.iload 4, 2) := by decide +kernel
theorem dX11_home_27 : decode cX11_home 27 = .ok (.iconst 0, 1) := by decide +kernel
theorem dX11_home_28 : decode cX11_home 28 = .ok (.iconst 1, 1) := by decide +kernel
theorem dX11_home_29 : decode cX11_home 29 = .ok (.invokevirtual 120, 3) := by decide +kernel
theorem dX11_home_32 : decode cX11_home 32 = .ok (.iload_n 1, 1) := by decide +kernel
theorem dX11_home_33 : decode cX11_home 33 = .ok (.iload_n 2, 1) := by decide +kernel
theorem dX11_home_34 : decode cX11_home 34 = .ok (.iload_n 3, 1) := by decide +kernel
theorem dX11_home_35 : decode cX11_home 35 = .ok (.iload 4, 2) := by decide +kernel
theorem dX11_home_37 : decode cX11_home 37 = .ok (.invokestatic 350, 3) := by decide +kernel
theorem dX11_home_40 : decode cX11_home 40 = .ok (.lreturn, 1) := by decide +kernel
theorem dX11_share_0 : decode cX11_share 0 = .ok (.aload_n 0, 1) := by decide +kernel
theorem dX11_share_1 : decode cX11_share 1 = .ok (.iload_n 1, 1) := by decide +kernel
theorem dX11_share_2 : decode cX11_share 2 = .ok (.invokevirtual 234, 3) := by decide +kernel
theorem dX11_share_5 : decode cX11_share 5 = .ok (.aload_n 0, 1) := by decide +kernel
theorem dX11_share_6 : decode cX11_share 6 = .ok (.iload_n 3, 1) := by decide +kernel
theorem dX11_share_7 : decode cX11_share 7 = .ok (.iconst 0, 1) := by decide +kernel
theorem dX11_share_8 : decode cX11_share 8 = .ok (.sipush 999, 3) := by decide +kernel
theorem dX11_share_11 : decode cX11_share 11 = .ok (.invokevirtual 120, 3) := by decide +kernel
theorem dX11_share_14 : decode cX11_share 14 = .ok (.aload_n 0, 1) := by decide +kernel
theorem dX11_share_15 : decode cX11_share 15 = .ok (.iload_n 2, 1) := by decide +kernel
theorem dX11_share_16 : decode cX11_share 16 = .ok (.iconst 1, 1) := by decide +kernel
theorem dX11_share_17 : decode cX11_share 17 = .ok (.aload_n 0, 1) := by decide +kernel
theorem dX11_share_18 : decode cX11_share 18 = .ok (.getfield 19, 3) := by decide +kernel
theorem dX11_share_21 : decode cX11_share 21 = .ok (.getfield 206, 3) := by decide +kernel
theorem dX11_share_24 : decode cX11_share 24 = .ok (.ishl, 1) := by decide +kernel
theorem dX11_share_25 : decode cX11_share 25 = .ok (.ineg, 1) := by decide +kernel
theorem dX11_share_26 : decode cX11_share 26 = .ok (.iand, 1) := by decide +kernel
theorem dX11_share_27 : decode cX11_share 27 = .ok (.ifCond .ne 7, 3) := by decide +kernel
theorem dX11_share_30 : decode cX11_share 30 = .ok (.iconst 1, 1) := by decide +kernel
theorem dX11_share_31 : decode cX11_share 31 = .ok (.goto 4, 3) := by decide +kernel
theorem dX11_share_34 : decode cX11_share 34 = .ok (.iconst 0, 1) := by decide +kernel
theorem dX11_share_35 : decode cX11_share 35 = .ok (.invokevirtual 354, 3) := by decide +kernel
theorem dX11_share_38 : decode cX11_share 38 = .ok (.iload_n 2, 1) := by decide +kernel
theorem dX11_share_39 : decode cX11_share 39 = .ok (.iconst 1, 1) := by decide +kernel
theorem dX11_share_40 : decode cX11_share 40 = .ok (.iload_n 1, 1) := by decide +kernel
theorem dX11_share_41 : decode cX11_share 41 = .ok (.ishl, 1) := by decide +kernel
theorem dX11_share_42 : decode cX11_share 42 = .ok (.iand, 1) := by decide +kernel
theorem dX11_share_43 : decode cX11_share 43 = .ok (.ifCond .ne 5, 3) := by decide +kernel
theorem dX11_share_46 : decode cX11_share 46 = .ok (.iconst 0, 1) := by decide +kernel
theorem dX11_share_47 : decode cX11_share 47 = .ok (.ireturn, 1) := by decide +kernel
theorem dX11_share_48 : decode cX11_share 48 = .ok (.bipush 99, 2) := by decide +kernel
theorem dX11_share_50 : decode cX11_share 50 = .ok (.istore 4, 2) := by decide +kernel
theorem dX11_share_52 : decode cX11_share 52 = .ok (.iload 4, 2) := by decide +kernel
theorem dX11_share_54 : decode cX11_share 54 = .ok (.ifCond .le 36, 3) := by decide +kernel
theorem dX11_share_57 : decode cX11_share 57 = .ok (.aload_n 0, 1) := by decide +kernel
theorem dX11_share_58 : decode cX11_share 58 = .ok (.getfield 58, 3) := by decide +kernel
theorem dX11_share_61 : decode cX11_share 61 = .ok (.iload 4, 2) := by decide +kernel
theorem dX11_share_63 : decode cX11_share 63 = .ok (.iload_n 2, 1) := by decide +kernel
theorem dX11_share_64 : decode cX11_share 64 = .ok (.invokevirtual 358, 3) := by decide +kernel
theorem dX11_share_67 : decode cX11_share 67 = .ok (.iload_n 3, 1) := by decide +kernel
theorem dX11_share_68 : decode cX11_share 68 = .ok (.if_icmp .gt 16, 3) := by decide +kernel
theorem dX11_share_71 : decode cX11_share 71 = .ok (.aload_n 0, 1) := by decide +kernel
theorem dX11_share_72 : decode cX11_share 72 = .ok (.getfield 58, 3) := by decide +kernel
theorem dX11_share_75 : decode cX11_share 75 = .ok (.iload 4, 2) := by decide +kernel
theorem dX11_share_77 : decode cX11_share 77 = .ok (.iconst 1, 1) := by decide +kernel
theorem dX11_share_78 : decode cX11_share 78 = .ok (.iload_n 1, 1) := by decide +kernel
theorem dX11_share_79 : decode cX11_share 79 = .ok (.ishl, 1) := by decide +kernel
theorem dX11_share_80 : decode cX11_share 80 = .ok (.invokevirtual 358, 3) := by decide +kernel
theorem dX11_share_83 : decode cX11_share 83 = .ok (.ireturn, 1) := by decide +kernel
theorem dX11_share_84 : decode cX11_share 84 = .ok (.iinc 4 (-1), 3) := by decide +kernel
theorem dX11_share_87 : decode cX11_share 87 = .ok (.goto (-35), 3) := by decide +kernel
theorem dX11_share_90 : decode cX11_share 90 = .ok (.iconst 0, 1) := by decide +kernel
theorem dX11_share_91 : decode cX11_share 91 = .ok (.ireturn, 1) := by decide +kernel
theorem dX11_heaviest_0 : decode cX11_heaviest 0 = .ok (.aload_n 0, 1) := by decide +kernel
theorem dX11_heaviest_1 : decode cX11_heaviest 1 = .ok (.iload_n 1, 1) := by decide +kernel
theorem dX11_heaviest_2 : decode cX11_heaviest 2 = .ok (.iconst 0, 1) := by decide +kernel
theorem dX11_heaviest_3 : decode cX11_heaviest 3 = .ok (.iconst 1, 1) := by decide +kernel
theorem dX11_heaviest_4 : decode cX11_heaviest 4 = .ok (.invokevirtual 120, 3) := by decide +kernel
theorem dX11_heaviest_7 : decode cX11_heaviest 7 = .ok (.aload_n 0, 1) := by decide +kernel
theorem dX11_heaviest_8 : decode cX11_heaviest 8 = .ok (.getfield 58, 3) := by decide +kernel
theorem dX11_heaviest_11 : decode cX11_heaviest 11 = .ok (.invokevirtual 361, 3) := by decide +kernel
theorem dX11_heaviest_14 : decode cX11_heaviest 14 = .ok (.istore_n 2, 1) := by decide +kernel
theorem dX11_heaviest_15 : decode cX11_heaviest 15 = .ok (.iload_n 1, 1) := by decide +kernel
theorem dX11_heaviest_16 : decode cX11_heaviest 16 = .ok (.ifCond .eq 8, 3) := by decide +kernel
theorem dX11_heaviest_19 : decode cX11_heaviest 19 = .ok (.iload_n 2, 1) := by decide +kernel
theorem dX11_heaviest_20 : decode cX11_heaviest 20 = .ok (.iconst (-1), 1) := by decide +kernel
theorem dX11_heaviest_21 : decode cX11_heaviest 21 = .ok (.if_icmp .ne 7, 3) := by decide +kernel
theorem dX11_heaviest_24 : decode cX11_heaviest 24 = .ok (.iload_n 2, 1) := by decide +kernel
theorem dX11_heaviest_25 : decode cX11_heaviest 25 = .ok (.goto 13, 3) := by decide +kernel
theorem dX11_heaviest_28 : decode cX11_heaviest 28 = .ok (.aload_n 0, 1) := by decide +kernel
theorem dX11_heaviest_29 : decode cX11_heaviest 29 = .ok (.getfield 58, 3) := by decide +kernel
theorem dX11_heaviest_32 : decode cX11_heaviest 32 = .ok (.iconst 1, 1) := by decide +kernel
theorem dX11_heaviest_33 : decode cX11_heaviest 33 = .ok (.iload_n 2, 1) := by decide +kernel
theorem dX11_heaviest_34 : decode cX11_heaviest 34 = .ok (.ishl, 1) := by decide +kernel
theorem dX11_heaviest_35 : decode cX11_heaviest 35 = .ok (.invokevirtual 221, 3) := by decide +kernel
theorem dX11_heaviest_38 : decode cX11_heaviest 38 = .ok (.ireturn, 1) := by decide +kernel
theorem dX11_oldest_0 : decode cX11_oldest 0 = .ok (.aload_n 0, 1) := by decide +kernel
theorem dX11_oldest_1 : decode cX11_oldest 1 = .ok (.iload_n 1, 1) := by decide +kernel
theorem dX11_oldest_2 : decode cX11_oldest 2 = .ok (.iconst 0, 1) := by decide +kernel
theorem dX11_oldest_3 : decode cX11_oldest 3 = .ok (.iconst 1, 1) := by decide +kernel
theorem dX11_oldest_4 : decode cX11_oldest 4 = .ok (.invokevirtual 120, 3) := by decide +kernel
theorem dX11_oldest_7 : decode cX11_oldest 7 = .ok (.aload_n 0, 1) := by decide +kernel
theorem dX11_oldest_8 : decode cX11_oldest 8 = .ok (.getfield 58, 3) := by decide +kernel
theorem dX11_oldest_11 : decode cX11_oldest 11 = .ok (.invokevirtual 364, 3) := by decide +kernel
theorem dX11_oldest_14 : decode cX11_oldest 14 = .ok (.istore_n 2, 1) := by decide +kernel
theorem dX11_oldest_15 : decode cX11_oldest 15 = .ok (.iload_n 1, 1) := by decide +kernel
theorem dX11_oldest_16 : decode cX11_oldest 16 = .ok (.ifCond .eq 8, 3) := by decide +kernel
theorem dX11_oldest_19 : decode cX11_oldest 19 = .ok (.iload_n 2, 1) := by decide +kernel
theorem dX11_oldest_20 : decode cX11_oldest 20 = .ok (.iconst (-1), 1) := by decide +kernel
theorem dX11_oldest_21 : decode cX11_oldest 21 = .ok (.if_icmp .ne 7, 3) := by decide +kernel
theorem dX11_oldest_24 : decode cX11_oldest 24 = .ok (.iload_n 2, 1) := by decide +kernel
theorem dX11_oldest_25 : decode cX11_oldest 25 = .ok (.goto 11, 3) := by decide +kernel
theorem dX11_oldest_28 : decode cX11_oldest 28 = .ok (.aload_n 0, 1) := by decide +kernel
theorem dX11_oldest_29 : decode cX11_oldest 29 = .ok (.getfield 58, 3) := by decide +kernel
theorem dX11_oldest_32 : decode cX11_oldest 32 = .ok (.iload_n 2, 1) := by decide +kernel
theorem dX11_oldest_33 : decode cX11_oldest 33 = .ok (.invokevirtual 267, 3) := by decide +kernel
theorem dX11_oldest_36 : decode cX11_oldest 36 = .ok (.ireturn, 1) := by decide +kernel
theorem dX11_lightest_0 : decode cX11_lightest 0 = .ok (.aload_n 0, 1) := by decide +kernel
theorem dX11_lightest_1 : decode cX11_lightest 1 = .ok (.iload_n 1, 1) := by decide +kernel
theorem dX11_lightest_2 : decode cX11_lightest 2 = .ok (.iconst 0, 1) := by decide +kernel
theorem dX11_lightest_3 : decode cX11_lightest 3 = .ok (.iconst 1, 1) := by decide +kernel
theorem dX11_lightest_4 : decode cX11_lightest 4 = .ok (.invokevirtual 120, 3) := by decide +kernel
theorem dX11_lightest_7 : decode cX11_lightest 7 = .ok (.aload_n 0, 1) := by decide +kernel
theorem dX11_lightest_8 : decode cX11_lightest 8 = .ok (.getfield 58, 3) := by decide +kernel
theorem dX11_lightest_11 : decode cX11_lightest 11 = .ok (.invokevirtual 367, 3) := by decide +kernel
theorem dX11_lightest_14 : decode cX11_lightest 14 = .ok (.istore_n 2, 1) := by decide +kernel
theorem dX11_lightest_15 : decode cX11_lightest 15 = .ok (.iload_n 1, 1) := by decide +kernel
theorem dX11_lightest_16 : decode cX11_lightest 16 = .ok (.ifCond .eq 8, 3) := by decide +kernel
theorem dX11_lightest_19 : decode cX11_lightest 19 = .ok (.iload_n 2, 1) := by decide +kernel
theorem dX11_lightest_20 : decode cX11_lightest 20 = .ok (.iconst (-1), 1) := by decide +kernel
theorem dX11_lightest_21 : decode cX11_lightest 21 = .ok (.if_icmp .ne 7, 3) := by decide +kernel
theorem dX11_lightest_24 : decode cX11_lightest 24 = .ok (.iload_n 2, 1) := by decide +kernel
theorem dX11_lightest_25 : decode cX11_lightest 25 = .ok (.goto 13, 3) := by decide +kernel
theorem dX11_lightest_28 : decode cX11_lightest 28 = .ok (.aload_n 0, 1) := by decide +kernel
theorem dX11_lightest_29 : decode cX11_lightest 29 = .ok (.getfield 58, 3) := by decide +kernel
theorem dX11_lightest_32 : decode cX11_lightest 32 = .ok (.iconst 1, 1) := by decide +kernel
theorem dX11_lightest_33 : decode cX11_lightest 33 = .ok (.iload_n 2, 1) := by decide +kernel
theorem dX11_lightest_34 : decode cX11_lightest 34 = .ok (.ishl, 1) := by decide +kernel
theorem dX11_lightest_35 : decode cX11_lightest 35 = .ok (.invokevirtual 221, 3) := by decide +kernel
theorem dX11_lightest_38 : decode cX11_lightest 38 = .ok (.ireturn, 1) := by decide +kernel
theorem dX11_coolest_0 : decode cX11_coolest 0 = .ok (.aload_n 0, 1) := by decide +kernel
theorem dX11_coolest_1 : decode cX11_coolest 1 = .ok (.iload_n 1, 1) := by decide +kernel
theorem dX11_coolest_2 : decode cX11_coolest 2 = .ok (.iconst 0, 1) := by decide +kernel
theorem dX11_coolest_3 : decode cX11_coolest 3 = .ok (.iconst 1, 1) := by decide +kernel
theorem dX11_coolest_4 : decode cX11_coolest 4 = .ok (.invokevirtual 120, 3) := by decide +kernel
theorem dX11_coolest_7 : decode cX11_coolest 7 = .ok (.aload_n 0, 1) := by decide +kernel
theorem dX11_coolest_8 : decode cX11_coolest 8 = .ok (.getfield 58, 3) := by decide +kernel
theorem dX11_coolest_11 : decode cX11_coolest 11 = .ok (.invokevirtual 370, 3) := by decide +kernel
theorem dX11_coolest_14 : decode cX11_coolest 14 = .ok (.istore_n 2, 1) := by decide +kernel
theorem dX11_coolest_15 : decode cX11_coolest 15 = .ok (.iload_n 1, 1) := by decide +kernel
theorem dX11_coolest_16 : decode cX11_coolest 16 = .ok (.ifCond .eq 8, 3) := by decide +kernel
theorem dX11_coolest_19 : decode cX11_coolest 19 = .ok (.iload_n 2, 1) := by decide +kernel
theorem dX11_coolest_20 : decode cX11_coolest 20 = .ok (.iconst (-1), 1) := by decide +kernel
theorem dX11_coolest_21 : decode cX11_coolest 21 = .ok (.if_icmp .ne 7, 3) := by decide +kernel
theorem dX11_coolest_24 : decode cX11_coolest 24 = .ok (.iload_n 2, 1) := by decide +kernel
theorem dX11_coolest_25 : decode cX11_coolest 25 = .ok (.goto 18, 3) := by decide +kernel
theorem dX11_coolest_28 : decode cX11_coolest 28 = .ok (.aload_n 0, 1) := by decide +kernel
theorem dX11_coolest_29 : decode cX11_coolest 29 = .ok (.getfield 58, 3) := by decide +kernel
theorem dX11_coolest_32 : decode cX11_coolest 32 = .ok (.iload_n 2, 1) := by decide +kernel
theorem dX11_coolest_33 : decode cX11_coolest 33 = .ok (.bipush 10, 2) := by decide +kernel
theorem dX11_coolest_35 : decode cX11_coolest 35 = .ok (.idiv, 1) := by decide +kernel
theorem dX11_coolest_36 : decode cX11_coolest 36 = .ok (.iload_n 2, 1) := by decide +kernel
theorem dX11_coolest_37 : decode cX11_coolest 37 = .ok (.bipush 10, 2) := by decide +kernel
theorem dX11_coolest_39 : decode cX11_coolest 39 = .ok (.irem, 1) := by decide +kernel
theorem dX11_coolest_40 : decode cX11_coolest 40 = .ok (.invokevirtual 277, 3) := by decide +kernel
theorem dX11_coolest_43 : decode cX11_coolest 43 = .ok (.ireturn, 1) := by decide +kernel
theorem dX11_overrun_0 : decode cX11_overrun 0 = .ok (.aload_n 0, 1) := by decide +kernel
theorem dX11_overrun_1 : decode cX11_overrun 1 = .ok (.getfield 58, 3) := by decide +kernel
theorem dX11_overrun_4 : decode cX11_overrun 4 = .ok (.invokevirtual 373, 3) := by decide +kernel
theorem dX11_overrun_7 : decode cX11_overrun 7 = .ok (.ireturn, 1) := by decide +kernel
theorem dX11_good_0 : decode cX11_good 0 = .ok (.aload_n 0, 1) := by decide +kernel
theorem dX11_good_1 : decode cX11_good 1 = .ok (.iload_n 1, 1) := by decide +kernel
theorem dX11_good_2 : decode cX11_good 2 = .ok (.iconst 0, 1) := by decide +kernel
theorem dX11_good_3 : decode cX11_good 3 = .ok (.iconst 2, 1) := by decide +kernel
theorem dX11_good_4 : decode cX11_good 4 = .ok (.invokevirtual 120, 3) := by decide +kernel
theorem dX11_good_7 : decode cX11_good 7 = .ok (.aload_n 0, 1) := by decide +kernel
theorem dX11_good_8 : decode cX11_good 8 = .ok (.getfield 58, 3) := by decide +kernel
theorem dX11_good_11 : decode cX11_good 11 = .ok (.invokevirtual 215, 3) := by decide +kernel
theorem dX11_good_14 : decode cX11_good 14 = .ok (.istore_n 2, 1) := by decide +kernel
theorem dX11_good_15 : decode cX11_good 15 = .ok (.iconst 0, 1) := by decide +kernel
theorem dX11_good_16 : decode cX11_good 16 = .ok (.istore_n 3, 1) := by decide +kernel
theorem dX11_good_17 : decode cX11_good 17 = .ok (.iconst 0, 1) := by decide +kernel
theorem dX11_good_18 : decode cX11_good 18 = .ok (.istore 4, 2) := by decide +kernel
theorem dX11_good_20 : decode cX11_good 20 = .ok (.iload 4, 2) := by decide +kernel
theorem dX11_good_22 : decode cX11_good 22 = .ok (.aload_n 0, 1) := by decide +kernel
theorem dX11_good_23 : decode cX11_good 23 = .ok (.getfield 19, 3) := by decide +kernel
theorem dX11_good_26 : decode cX11_good 26 = .ok (.getfield 206, 3) := by decide +kernel
theorem dX11_good_29 : decode cX11_good 29 = .ok (.if_icmp .ge 79, 3) := by decide +kernel
theorem dX11_good_32 : decode cX11_good 32 = .ok (.iload_n 2, 1) := by decide +kernel
theorem dX11_good_33 : decode cX11_good 33 = .ok (.aload_n 0, 1) := by decide +kernel
theorem dX11_good_34 : decode cX11_good 34 = .ok (.getfield 19, 3) := by decide +kernel
theorem dX11_good_37 : decode cX11_good 37 = .ok (.iload 4, 2) := by decide +kernel
theorem dX11_good_39 : decode cX11_good 39 = .ok (.invokevirtual 246, 3) := by decide +kernel
theorem dX11_good_42 : decode cX11_good 42 = .ok (.iand, 1) := by decide +kernel
theorem dX11_good_43 : decode cX11_good 43 = .ok (.invokestatic 376, 3) := by decide +kernel
theorem dX11_good_46 : decode cX11_good 46 = .ok (.istore 5, 2) := by decide +kernel
theorem dX11_good_48 : decode cX11_good 48 = .ok (.iload_n 2, 1) := by decide +kernel
theorem dX11_good_49 : decode cX11_good 49 = .ok (.aload_n 0, 1) := by decide +kernel
theorem dX11_good_50 : decode cX11_good 50 = .ok (.getfield 19, 3) := by decide +kernel
theorem dX11_good_53 : decode cX11_good 53 = .ok (.iload 4, 2) := by decide +kernel
theorem dX11_good_55 : decode cX11_good 55 = .ok (.invokevirtual 249, 3) := by decide +kernel
theorem dX11_good_58 : decode cX11_good 58 = .ok (.iand, 1) := by decide +kernel
theorem dX11_good_59 : decode cX11_good 59 = .ok (.invokestatic 376, 3) := by decide +kernel
theorem dX11_good_62 : decode cX11_good 62 = .ok (.istore 6, 2) := by decide +kernel
theorem dX11_good_64 : decode cX11_good 64 = .ok (.iload 5, 2) := by decide +kernel
theorem dX11_good_66 : decode cX11_good 66 = .ok (.iload 6, 2) := by decide +kernel
theorem dX11_good_68 : decode cX11_good 68 = .ok (.if_icmp .le 7, 3) := by decide +kernel
theorem dX11_good_71 : decode cX11_good 71 = .ok (.iconst 0, 1) := by decide +kernel
theorem dX11_good_72 : decode cX11_good 72 = .ok (.goto 15, 3) := by decide +kernel
theorem dX11_good_75 : decode cX11_good 75 = .ok (.iload 5, 2) := by decide +kernel
theorem dX11_good_77 : decode cX11_good 77 = .ok (.iload 6, 2) := by decide +kernel
theorem dX11_good_79 : decode cX11_good 79 = .ok (.if_icmp .ne 7, 3) := by decide +kernel
theorem dX11_good_82 : decode cX11_good 82 = .ok (.iconst 1, 1) := by decide +kernel
theorem dX11_good_83 : decode cX11_good 83 = .ok (.goto 4, 3) := by decide +kernel
theorem dX11_good_86 : decode cX11_good 86 = .ok (.iconst 2, 1) := by decide +kernel
theorem dX11_good_87 : decode cX11_good 87 = .ok (.istore 7, 2) := by decide +kernel
theorem dX11_good_89 : decode cX11_good 89 = .ok (.iload 7, 2) := by decide +kernel
theorem dX11_good_91 : decode cX11_good 91 = .ok (.iload_n 1, 1) := by decide +kernel
theorem dX11_good_92 : decode cX11_good 92 = .ok (.if_icmp .ne 10, 3) := by decide +kernel
theorem dX11_good_95 : decode cX11_good 95 = .ok (.iload_n 3, 1) := by decide +kernel
theorem dX11_good_96 : decode cX11_good 96 = .ok (.iconst 1, 1) := by decide +kernel
theorem dX11_good_97 : decode cX11_good 97 = .ok (.iload 4, 2) := by decide +kernel
theorem dX11_good_99 : decode cX11_good 99 = .ok (.ishl, 1) := by decide +kernel
theorem dX11_good_100 : decode cX11_good 100 = .ok (.ior, 1) := by decide +kernel
theorem dX11_good_101 : decode cX11_good 101 = .ok (.istore_n 3, 1) := by decide +kernel
theorem dX11_good_102 : decode cX11_good 102 = .ok (.iinc 4 1, 3) := by decide +kernel
theorem dX11_good_105 : decode cX11_good 105 = .ok (.goto (-85), 3) := by decide +kernel
theorem dX11_good_108 : decode cX11_good 108 = .ok (.iload_n 3, 1) := by decide +kernel
theorem dX11_good_109 : decode cX11_good 109 = .ok (.ireturn, 1) := by decide +kernel
theorem dX11_kind_0 : decode cX11_kind 0 = .ok (.aload_n 0, 1) := by decide +kernel
theorem dX11_kind_1 : decode cX11_kind 1 = .ok (.iload_n 1, 1) := by decide +kernel
theorem dX11_kind_2 : decode cX11_kind 2 = .ok (.iconst 0, 1) := by decide +kernel
theorem dX11_kind_3 : decode cX11_kind 3 = .ok (.iconst 5, 1) := by decide +kernel
theorem dX11_kind_4 : decode cX11_kind 4 = .ok (.invokevirtual 120, 3) := by decide +kernel
theorem dX11_kind_7 : decode cX11_kind 7 = .ok (.aload_n 0, 1) := by decide +kernel
theorem dX11_kind_8 : decode cX11_kind 8 = .ok (.getfield 58, 3) := by decide +kernel
theorem dX11_kind_11 : decode cX11_kind 11 = .ok (.invokevirtual 215, 3) := by decide +kernel
theorem dX11_kind_14 : decode cX11_kind 14 = .ok (.aload_n 0, 1) := by decide +kernel
theorem dX11_kind_15 : decode cX11_kind 15 = .ok (.getfield 19, 3) := by decide +kernel
theorem dX11_kind_18 : decode cX11_kind 18 = .ok (.iload_n 1, 1) := by decide +kernel
theorem dX11_kind_19 : decode cX11_kind 19 = .ok (.invokevirtual 381, 3) := by decide +kernel
theorem dX11_kind_22 : decode cX11_kind 22 = .ok (.iand, 1) := by decide +kernel
theorem dX11_kind_23 : decode cX11_kind 23 = .ok (.ireturn, 1) := by decide +kernel
theorem dX11_driven_0 : decode cX11_driven 0 = .ok (.aload_n 0, 1) := by decide +kernel
theorem dX11_driven_1 : decode cX11_driven 1 = .ok (.getfield 58, 3) := by decide +kernel
theorem dX11_driven_4 : decode cX11_driven 4 = .ok (.invokevirtual 384, 3) := by decide +kernel
theorem dX11_driven_7 : decode cX11_driven 7 = .ok (.ireturn, 1) := by decide +kernel
theorem dX11_weighs_0 : decode cX11_weighs 0 = .ok (.aload_n 0, 1) := by decide +kernel
theorem dX11_weighs_1 : decode cX11_weighs 1 = .ok (.iload_n 1, 1) := by decide +kernel
theorem dX11_weighs_2 : decode cX11_weighs 2 = .ok (.invokevirtual 234, 3) := by decide +kernel
theorem dX11_weighs_5 : decode cX11_weighs 5 = .ok (.aload_n 0, 1) := by decide +kernel
theorem dX11_weighs_6 : decode cX11_weighs 6 = .ok (.iload_n 2, 1) := by decide +kernel
theorem dX11_weighs_7 : decode cX11_weighs 7 = .ok (.iconst 0, 1) := by decide +kernel
theorem dX11_weighs_8 : decode cX11_weighs 8 = .ok (.iconst 1, 1) := by decide +kernel
theorem dX11_weighs_9 : decode cX11_weighs 9 = .ok (.invokevirtual 120, 3) := by decide +kernel
theorem dX11_weighs_12 : decode cX11_weighs 12 = .ok (.aload_n 0, 1) := by decide +kernel
theorem dX11_weighs_13 : decode cX11_weighs 13 = .ok (.getfield 58, 3) := by decide +kernel
theorem dX11_weighs_16 : decode cX11_weighs 16 = .ok (.iload_n 2, 1) := by decide +kernel
theorem dX11_weighs_17 : decode cX11_weighs 17 = .ok (.ifCond .ne 14, 3) := by decide +kernel
theorem dX11_weighs_20 : decode cX11_weighs 20 = .ok (.aload_n 0, 1) := by decide +kernel
theorem dX11_weighs_21 : decode cX11_weighs 21 = .ok (.getfield 19, 3) := by decide +kernel
theorem dX11_weighs_24 : decode cX11_weighs 24 = .ok (.iload_n 1, 1) := by decide +kernel
theorem dX11_weighs_25 : decode cX11_weighs 25 = .ok (.invokevirtual 246, 3) := by decide +kernel
theorem dX11_weighs_28 : decode cX11_weighs 28 = .ok (.goto 11, 3) := by decide +kernel
theorem dX11_weighs_31 : decode cX11_weighs 31 = .ok (.aload_n 0, 1) := by decide +kernel
theorem dX11_weighs_32 : decode cX11_weighs 32 = .ok (.getfield 19, 3) := by decide +kernel
theorem dX11_weighs_35 : decode cX11_weighs 35 = .ok (.iload_n 1, 1) := by decide +kernel
theorem dX11_weighs_36 : decode cX11_weighs 36 = .ok (.invokevirtual 249, 3) := by decide +kernel
theorem dX11_weighs_39 : decode cX11_weighs 39 = .ok (.invokevirtual 221, 3) := by decide +kernel
theorem dX11_weighs_42 : decode cX11_weighs 42 = .ok (.ireturn, 1) := by decide +kernel
theorem dX11_decade_0 : decode cX11_decade 0 = .ok (.aload_n 0, 1) := by decide +kernel
theorem dX11_decade_1 : decode cX11_decade 1 = .ok (.iload_n 2, 1) := by decide +kernel
theorem dX11_decade_2 : decode cX11_decade 2 = .ok (.iconst 1, 1) := by decide +kernel
theorem dX11_decade_3 : decode cX11_decade 3 = .ok (.bipush 96, 2) := by decide +kernel
theorem dX11_decade_5 : decode cX11_decade 5 = .ok (.invokevirtual 120, 3) := by decide +kernel
theorem dX11_decade_8 : decode cX11_decade 8 = .ok (.aload_n 0, 1) := by decide +kernel
theorem dX11_decade_9 : decode cX11_decade 9 = .ok (.iload_n 3, 1) := by decide +kernel
theorem dX11_decade_10 : decode cX11_decade 10 = .ok (.iconst 0, 1) := by decide +kernel
theorem dX11_decade_11 : decode cX11_decade 11 = .ok (.bipush 16, 2) := by decide +kernel
theorem dX11_decade_13 : decode cX11_decade 13 = .ok (.invokevirtual 120, 3) := by decide +kernel
theorem dX11_decade_16 : decode cX11_decade 16 = .ok (.aload_n 0, 1) := by decide +kernel
theorem dX11_decade_17 : decode cX11_decade 17 = .ok (.iload 4, 2) := by decide +kernel
theorem dX11_decade_19 : decode cX11_decade 19 = .ok (.iconst 0, 1) := by decide +kernel
theorem dX11_decade_20 : decode cX11_decade 20 = .ok (.iconst 3, 1) := by decide +kernel
theorem dX11_decade_21 : decode cX11_decade 21 = .ok (.invokevirtual 120, 3) := by decide +kernel
theorem dX11_decade_24 : decode cX11_decade 24 = .ok (.aload_n 0, 1) := by decide +kernel
theorem dX11_decade_25 : decode cX11_decade 25 = .ok (.getfield 95, 3) := by decide +kernel
theorem dX11_decade_28 : decode cX11_decade 28 = .ok (.iload_n 1, 1) := by decide +kernel
theorem dX11_decade_29 : decode cX11_decade 29 = .ok (.iload_n 2, 1) := by decide +kernel
theorem dX11_decade_30 : decode cX11_decade 30 = .ok (.iload_n 3, 1) := by decide +kernel
theorem dX11_decade_31 : decode cX11_decade 31 = .ok (.invokevirtual 387, 3) := by decide +kernel
theorem dX11_decade_34 : decode cX11_decade 34 = .ok (.iload 4, 2) := by decide +kernel
theorem dX11_decade_36 : decode cX11_decade 36 = .ok (.tableswitch 60 0 2 #[28, 36, 44], 28) := by decide +kernel
theorem dX11_decade_64 : decode cX11_decade 64 = .ok (.aload_n 0, 1) := by decide +kernel
theorem dX11_decade_65 : decode cX11_decade 65 = .ok (.getfield 62, 3) := by decide +kernel
theorem dX11_decade_68 : decode cX11_decade 68 = .ok (.invokevirtual 218, 3) := by decide +kernel
theorem dX11_decade_71 : decode cX11_decade 71 = .ok (.ireturn, 1) := by decide +kernel
theorem dX11_decade_72 : decode cX11_decade 72 = .ok (.aload_n 0, 1) := by decide +kernel
theorem dX11_decade_73 : decode cX11_decade 73 = .ok (.getfield 62, 3) := by decide +kernel
theorem dX11_decade_76 : decode cX11_decade 76 = .ok (.invokevirtual 215, 3) := by decide +kernel
theorem dX11_decade_79 : decode cX11_decade 79 = .ok (.ireturn, 1) := by decide +kernel
theorem dX11_decade_80 : decode cX11_decade 80 = .ok (.aload_n 0, 1) := by decide +kernel
theorem dX11_decade_81 : decode cX11_decade 81 = .ok (.getfield 62, 3) := by decide +kernel
theorem dX11_decade_84 : decode cX11_decade 84 = .ok (.getfield 228, 3) := by decide +kernel
theorem dX11_decade_87 : decode cX11_decade 87 = .ok (.aload_n 0, 1) := by decide +kernel
theorem dX11_decade_88 : decode cX11_decade 88 = .ok (.getfield 58, 3) := by decide +kernel
theorem dX11_decade_91 : decode cX11_decade 91 = .ok (.getfield 228, 3) := by decide +kernel
theorem dX11_decade_94 : decode cX11_decade 94 = .ok (.isub, 1) := by decide +kernel
theorem dX11_decade_95 : decode cX11_decade 95 = .ok (.ireturn, 1) := by decide +kernel
theorem dX11_decade_96 : decode cX11_decade 96 = .ok (.aload_n 0, 1) := by decide +kernel
theorem dX11_decade_97 : decode cX11_decade 97 = .ok (.getfield 62, 3) := by decide +kernel
theorem dX11_decade_100 : decode cX11_decade 100 = .ok (.aload_n 0, 1) := by decide +kernel
theorem dX11_decade_101 : decode cX11_decade 101 = .ok (.getfield 62, 3) := by decide +kernel
theorem dX11_decade_104 : decode cX11_decade 104 = .ok (.invokevirtual 215, 3) := by decide +kernel
theorem dX11_decade_107 : decode cX11_decade 107 = .ok (.invokevirtual 221, 3) := by decide +kernel
theorem dX11_decade_110 : decode cX11_decade 110 = .ok (.ireturn, 1) := by decide +kernel
theorem dX11_span_0 : decode cX11_span 0 = .ok (.aload_n 0, 1) := by decide +kernel
theorem dX11_span_1 : decode cX11_span 1 = .ok (.iload_n 2, 1) := by decide +kernel
theorem dX11_span_2 : decode cX11_span 2 = .ok (.iconst 1, 1) := by decide +kernel
theorem dX11_span_3 : decode cX11_span 3 = .ok (.bipush 20, 2) := by decide +kernel
theorem dX11_span_5 : decode cX11_span 5 = .ok (.invokevirtual 120, 3) := by decide +kernel
theorem dX11_span_8 : decode cX11_span 8 = .ok (.aload_n 0, 1) := by decide +kernel
theorem dX11_span_9 : decode cX11_span 9 = .ok (.iload_n 3, 1) := by decide +kernel
theorem dX11_span_10 : decode cX11_span 10 = .ok (.iconst 1, 1) := by decide +kernel
theorem dX11_span_11 : decode cX11_span 11 = .ok (.bipush 96, 2) := by decide +kernel
theorem dX11_span_13 : decode cX11_span 13 = .ok (.invokevirtual 120, 3) := by decide +kernel
theorem dX11_span_16 : decode cX11_span 16 = .ok (.aload_n 0, 1) := by decide +kernel
theorem dX11_span_17 : decode cX11_span 17 = .ok (.iload 4, 2) := by decide +kernel
theorem dX11_span_19 : decode cX11_span 19 = .ok (.iconst 0, 1) := by decide +kernel
theorem dX11_span_20 : decode cX11_span 20 = .ok (.bipush 16, 2) := by decide +kernel
theorem dX11_span_22 : decode cX11_span 22 = .ok (.invokevirtual 120, 3) := by decide +kernel
theorem dX11_span_25 : decode cX11_span 25 = .ok (.aload_n 0, 1) := by decide +kernel
theorem dX11_span_26 : decode cX11_span 26 = .ok (.iload 5, 2) := by decide +kernel
theorem dX11_span_28 : decode cX11_span 28 = .ok (.iconst 0, 1) := by decide +kernel
theorem dX11_span_29 : decode cX11_span 29 = .ok (.iconst 2, 1) := by decide +kernel
theorem dX11_span_30 : decode cX11_span 30 = .ok (.invokevirtual 120, 3) := by decide +kernel
theorem dX11_span_33 : decode cX11_span 33 = .ok (.aload_n 0, 1) := by decide +kernel
theorem dX11_span_34 : decode cX11_span 34 = .ok (.aload_n 0, 1) := by decide +kernel
theorem dX11_span_35 : decode cX11_span 35 = .ok (.getfield 19, 3) := by decide +kernel
theorem dX11_span_38 : decode cX11_span 38 = .ok (.iload 6, 2) := by decide +kernel
theorem dX11_span_40 : decode cX11_span 40 = .ok (.invokevirtual 390, 3) := by decide +kernel
theorem dX11_span_43 : decode cX11_span 43 = .ok (.invokevirtual 354, 3) := by decide +kernel
theorem dX11_span_46 : decode cX11_span 46 = .ok (.sipush 594, 3) := by decide +kernel
theorem dX11_span_49 : decode cX11_span 49 = .ok (.istore 7, 2) := by decide +kernel
theorem dX11_span_51 : decode cX11_span 51 = .ok (.iconst 0, 1) := by decide +kernel
theorem dX11_span_52 : decode cX11_span 52 = .ok (.istore 8, 2) := by decide +kernel
theorem dX11_span_54 : decode cX11_span 54 = .ok (.iconst 0, 1) := by decide +kernel
theorem dX11_span_55 : decode cX11_span 55 = .ok (.istore 9, 2) := by decide +kernel
theorem dX11_span_57 : decode cX11_span 57 = .ok (.iconst 0, 1) := by decide +kernel
theorem dX11_span_58 : decode cX11_span 58 = .ok (.istore 10, 2) := by decide +kernel
theorem dX11_span_60 : decode cX11_span 60 = .ok (.iload 10, 2) := by decide +kernel
theorem dX11_span_62 : decode cX11_span 62 = .ok (.iload_n 2, 1) := by decide +kernel
theorem dX11_span_63 : decode cX11_span 63 = .ok (.if_icmp .ge 72, 3) := by decide +kernel
theorem dX11_span_66 : decode cX11_span 66 = .ok (.aload_n 0, 1) := by decide +kernel
theorem dX11_span_67 : decode cX11_span 67 = .ok (.getfield 95, 3) := by decide +kernel
theorem dX11_span_70 : decode cX11_span 70 = .ok (.iload_n 1, 1) := by decide +kernel
theorem dX11_span_71 : decode cX11_span 71 = .ok (.iload 10, 2) := by decide +kernel
theorem dX11_span_73 : decode cX11_span 73 = .ok (.iadd, 1) := by decide +kernel
theorem dX11_span_74 : decode cX11_span 74 = .ok (.iload_n 3, 1) := by decide +kernel
theorem dX11_span_75 : decode cX11_span 75 = .ok (.iload 4, 2) := by decide +kernel
theorem dX11_span_77 : decode cX11_span 77 = .ok (.invokevirtual 387, 3) := by decide +kernel
theorem dX11_span_80 : decode cX11_span 80 = .ok (.aload_n 0, 1) := by decide +kernel
theorem dX11_span_81 : decode cX11_span 81 = .ok (.getfield 62, 3) := by decide +kernel
theorem dX11_span_84 : decode cX11_span 84 = .ok (.invokevirtual 218, 3) := by decide +kernel
theorem dX11_span_87 : decode cX11_span 87 = .ok (.istore 11, 2) := by decide +kernel
theorem dX11_span_89 : decode cX11_span 89 = .ok (.iload 7, 2) := by decide +kernel
theorem dX11_span_91 : decode cX11_span 91 = .ok (.iload 11, 2) := by decide +kernel
theorem dX11_span_93 : decode cX11_span 93 = .ok (.invokestatic 152, 3) := by decide +kernel
theorem dX11_span_96 : decode cX11_span 96 = .ok (.istore 7, 2) := by decide +kernel
theorem dX11_span_98 : decode cX11_span 98 = .ok (.iload 8, 2) := by decide +kernel
theorem dX11_span_100 : decode cX11_span 100 = .ok (.iload 11, 2) := by decide +kernel
theorem dX11_span_102 : decode cX11_span 102 = .ok (.invokestatic 394, 3) := by decide +kernel
theorem dX11_span_105 : decode cX11_span 105 = .ok (.istore 8, 2) := by decide +kernel
theorem dX11_span_107 : decode cX11_span 107 = .ok (.iload 9, 2) := by decide +kernel
theorem dX11_span_109 : decode cX11_span 109 = .ok (.aload_n 0, 1) := by decide +kernel
theorem dX11_span_110 : decode cX11_span 110 = .ok (.getfield 62, 3) := by decide +kernel
theorem dX11_span_113 : decode cX11_span 113 = .ok (.iload 6, 2) := by decide +kernel
theorem dX11_span_115 : decode cX11_span 115 = .ok (.invokevirtual 237, 3) := by decide +kernel
theorem dX11_span_118 : decode cX11_span 118 = .ok (.ifCond .ne 7, 3) := by decide +kernel
theorem dX11_span_121 : decode cX11_span 121 = .ok (.iconst 1, 1) := by decide +kernel
theorem dX11_span_122 : decode cX11_span 122 = .ok (.goto 4, 3) := by decide +kernel
theorem dX11_span_125 : decode cX11_span 125 = .ok (.iconst 0, 1) := by decide +kernel
theorem dX11_span_126 : decode cX11_span 126 = .ok (.iadd, 1) := by decide +kernel
theorem dX11_span_127 : decode cX11_span 127 = .ok (.istore 9, 2) := by decide +kernel
theorem dX11_span_129 : decode cX11_span 129 = .ok (.iinc 10 1, 3) := by decide +kernel
theorem dX11_span_132 : decode cX11_span 132 = .ok (.goto (-72), 3) := by decide +kernel
theorem dX11_span_135 : decode cX11_span 135 = .ok (.iload 5, 2) := by decide +kernel
theorem dX11_span_137 : decode cX11_span 137 = .ok (.ifCond .ne 8, 3) := by decide +kernel
theorem dX11_span_140 : decode cX11_span 140 = .ok (.iload 7, 2) := by decide +kernel
theorem dX11_span_142 : decode cX11_span 142 = .ok (.goto 16, 3) := by decide +kernel
theorem dX11_span_145 : decode cX11_span 145 = .ok (.iload 5, 2) := by decide +kernel
theorem dX11_span_147 : decode cX11_span 147 = .ok (.iconst 1, 1) := by decide +kernel
theorem dX11_span_148 : decode cX11_span 148 = .ok (.if_icmp .ne 8, 3) := by decide +kernel
theorem dX11_span_151 : decode cX11_span 151 = .ok (.iload 8, 2) := by decide +kernel
theorem dX11_span_153 : decode cX11_span 153 = .ok (.goto 5, 3) := by decide +kernel
theorem dX11_span_156 : decode cX11_span 156 = .ok (.iload 9, 2) := by decide +kernel
theorem dX11_span_158 : decode cX11_span 158 = .ok (.ireturn, 1) := by decide +kernel
theorem dX11_status_0 : decode cX11_status 0 = .ok (.iload_n 1, 1) := by decide +kernel
theorem dX11_status_1 : decode cX11_status 1 = .ok (.ifCond .ne 10, 3) := by decide +kernel
theorem dX11_status_4 : decode cX11_status 4 = .ok (.aload_n 0, 1) := by decide +kernel
theorem dX11_status_5 : decode cX11_status 5 = .ok (.getfield 103, 3) := by decide +kernel
theorem dX11_status_8 : decode cX11_status 8 = .ok (.goto 16, 3) := by decide +kernel
theorem dX11_status_11 : decode cX11_status 11 = .ok (.iload_n 1, 1) := by decide +kernel
theorem dX11_status_12 : decode cX11_status 12 = .ok (.iconst 1, 1) := by decide +kernel
theorem dX11_status_13 : decode cX11_status 13 = .ok (.if_icmp .ne 10, 3) := by decide +kernel
theorem dX11_status_16 : decode cX11_status 16 = .ok (.aload_n 0, 1) := by decide +kernel
theorem dX11_status_17 : decode cX11_status 17 = .ok (.getfield 106, 3) := by decide +kernel
theorem dX11_status_20 : decode cX11_status 20 = .ok (.goto 4, 3) := by decide +kernel
theorem dX11_status_23 : decode cX11_status 23 = .ok (.iconst (-1), 1) := by decide +kernel
theorem dX11_status_24 : decode cX11_status 24 = .ok (.ireturn, 1) := by decide +kernel
theorem dX11_count_0 : decode cX11_count 0 = .ok (.iload_n 1, 1) := by decide +kernel
theorem dX11_count_1 : decode cX11_count 1 = .ok (.tableswitch 51 0 2 #[27, 35, 43], 27) := by decide +kernel
theorem dX11_count_28 : decode cX11_count 28 = .ok (.aload_n 0, 1) := by decide +kernel
theorem dX11_count_29 : decode cX11_count 29 = .ok (.getfield 68, 3) := by decide +kernel
theorem dX11_count_32 : decode cX11_count 32 = .ok (.getfield 200, 3) := by decide +kernel
theorem dX11_count_35 : decode cX11_count 35 = .ok (.ireturn, 1) := by decide +kernel
theorem dX11_count_36 : decode cX11_count 36 = .ok (.aload_n 0, 1) := by decide +kernel
theorem dX11_count_37 : decode cX11_count 37 = .ok (.getfield 12, 3) := by decide +kernel
theorem dX11_count_40 : decode cX11_count 40 = .ok (.getfield 117, 3) := by decide +kernel
theorem dX11_count_43 : decode cX11_count 43 = .ok (.ireturn, 1) := by decide +kernel
theorem dX11_count_44 : decode cX11_count 44 = .ok (.aload_n 0, 1) := by decide +kernel
theorem dX11_count_45 : decode cX11_count 45 = .ok (.getfield 68, 3) := by decide +kernel
theorem dX11_count_48 : decode cX11_count 48 = .ok (.getfield 162, 3) := by decide +kernel
theorem dX11_count_51 : decode cX11_count 51 = .ok (.ireturn, 1) := by decide +kernel
theorem dX11_count_52 : decode cX11_count 52 = .ok (.iconst (-1), 1) := by decide +kernel
theorem dX11_count_53 : decode cX11_count 53 = .ok (.ireturn, 1) := by decide +kernel
theorem dX11_needFolk_0 : decode cX11_needFolk 0 = .ok (.aload_n 0, 1) := by decide +kernel
theorem dX11_needFolk_1 : decode cX11_needFolk 1 = .ok (.iload_n 1, 1) := by decide +kernel
theorem dX11_needFolk_2 : decode cX11_needFolk 2 = .ok (.aload_n 0, 1) := by decide +kernel
theorem dX11_needFolk_3 : decode cX11_needFolk 3 = .ok (.getfield 19, 3) := by decide +kernel
theorem dX11_needFolk_6 : decode cX11_needFolk 6 = .ok (.getfield 206, 3) := by decide +kernel
theorem dX11_needFolk_9 : decode cX11_needFolk 9 = .ok (.invokevirtual 270, 3) := by decide +kernel
theorem dX11_needFolk_12 : decode cX11_needFolk 12 = .ok (.return_, 1) := by decide +kernel
theorem dX11_needBeast_0 : decode cX11_needBeast 0 = .ok (.aload_n 0, 1) := by decide +kernel
theorem dX11_needBeast_1 : decode cX11_needBeast 1 = .ok (.iload_n 1, 1) := by decide +kernel
theorem dX11_needBeast_2 : decode cX11_needBeast 2 = .ok (.aload_n 0, 1) := by decide +kernel
theorem dX11_needBeast_3 : decode cX11_needBeast 3 = .ok (.getfield 19, 3) := by decide +kernel
theorem dX11_needBeast_6 : decode cX11_needBeast 6 = .ok (.getfield 149, 3) := by decide +kernel
theorem dX11_needBeast_9 : decode cX11_needBeast 9 = .ok (.invokevirtual 270, 3) := by decide +kernel
theorem dX11_needBeast_12 : decode cX11_needBeast 12 = .ok (.return_, 1) := by decide +kernel
theorem dX11_needNumber_0 : decode cX11_needNumber 0 = .ok (.iload_n 1, 1) := by decide +kernel
theorem dX11_needNumber_1 : decode cX11_needNumber 1 = .ok (.ifCond .lt 8, 3) := by decide +kernel
theorem dX11_needNumber_4 : decode cX11_needNumber 4 = .ok (.iload_n 1, 1) := by decide +kernel
theorem dX11_needNumber_5 : decode cX11_needNumber 5 = .ok (.iload_n 2, 1) := by decide +kernel
theorem dX11_needNumber_6 : decode cX11_needNumber 6 = .ok (.if_icmp .lt 24, 3) := by decide +kernel
theorem dX11_needNumber_9 : decode cX11_needNumber 9 = .ok (.aload_n 0, 1) := by decide +kernel
theorem dX11_needNumber_10 : decode cX11_needNumber 10 = .ok (.dup, 1) := by decide +kernel
theorem dX11_needNumber_11 : decode cX11_needNumber 11 = .ok (.getfield 103, 3) := by decide +kernel
theorem dX11_needNumber_14 : decode cX11_needNumber 14 = .ok (.iconst 1, 1) := by decide +kernel
theorem dX11_needNumber_15 : decode cX11_needNumber 15 = .ok (.iadd, 1) := by decide +kernel
theorem dX11_needNumber_16 : decode cX11_needNumber 16 = .ok (.putfield 103, 3) := by decide +kernel
theorem dX11_needNumber_19 : decode cX11_needNumber 19 = .ok (.new 397, 3) := by decide +kernel
theorem dX11_needNumber_22 : decode cX11_needNumber 22 = .ok (.dup, 1) := by decide +kernel
theorem dX11_needNumber_23 : decode cX11_needNumber 23 = .ok (.ldc_w 399, 3) := by decide +kernel
theorem dX11_needNumber_26 : decode cX11_needNumber 26 = .ok (.invokespecial 401, 3) := by decide +kernel
theorem dX11_needNumber_29 : decode cX11_needNumber 29 = .ok (.athrow, 1) := by decide +kernel
theorem dX11_needNumber_30 : decode cX11_needNumber 30 = .ok (.return_, 1) := by decide +kernel
theorem dX11_needWithin_0 : decode cX11_needWithin 0 = .ok (.aload_n 0, 1) := by decide +kernel
theorem dX11_needWithin_1 : decode cX11_needWithin 1 = .ok (.iload_n 1, 1) := by decide +kernel
theorem dX11_needWithin_2 : decode cX11_needWithin 2 = .ok (.iload_n 2, 1) := by decide +kernel
theorem dX11_needWithin_3 : decode cX11_needWithin 3 = .ok (.if_icmp .lt 12, 3) := by decide +kernel
theorem dX11_needWithin_6 : decode cX11_needWithin 6 = .ok (.iload_n 1, 1) := by decide +kernel
theorem dX11_needWithin_7 : decode cX11_needWithin 7 = .ok (.iload_n 3, 1) := by decide +kernel
theorem dX11_needWithin_8 : decode cX11_needWithin 8 = .ok (.if_icmp .gt 7, 3) := by decide +kernel
theorem dX11_needWithin_11 : decode cX11_needWithin 11 = .ok (.iconst 1, 1) := by decide +kernel
theorem dX11_needWithin_12 : decode cX11_needWithin 12 = .ok (.goto 4, 3) := by decide +kernel
theorem dX11_needWithin_15 : decode cX11_needWithin 15 = .ok (.iconst 0, 1) := by decide +kernel
theorem dX11_needWithin_16 : decode cX11_needWithin 16 = .ok (.invokevirtual 354, 3) := by decide +kernel
theorem dX11_needWithin_19 : decode cX11_needWithin 19 = .ok (.return_, 1) := by decide +kernel
theorem dX11_need_0 : decode cX11_need 0 = .ok (.iload_n 1, 1) := by decide +kernel
theorem dX11_need_1 : decode cX11_need 1 = .ok (.ifCond .ne 24, 3) := by decide +kernel
theorem dX11_need_4 : decode cX11_need 4 = .ok (.aload_n 0, 1) := by decide +kernel
theorem dX11_need_5 : decode cX11_need 5 = .ok (.dup, 1) := by decide +kernel
theorem dX11_need_6 : decode cX11_need 6 = .ok (.getfield 106, 3) := by decide +kernel
theorem dX11_need_9 : decode cX11_need 9 = .ok (.iconst 1, 1) := by decide +kernel
theorem dX11_need_10 : decode cX11_need 10 = .ok (.iadd, 1) := by decide +kernel
theorem dX11_need_11 : decode cX11_need 11 = .ok (.putfield 106, 3) := by decide +kernel
theorem dX11_need_14 : decode cX11_need 14 = .ok (.new 404, 3) := by decide +kernel
theorem dX11_need_17 : decode cX11_need 17 = .ok (.dup, 1) := by decide +kernel
theorem dX11_need_18 : decode cX11_need 18 = .ok (.ldc_w 406, 3) := by decide +kernel
theorem dX11_need_21 : decode cX11_need 21 = .ok (.invokespecial 408, 3) := by decide +kernel
theorem dX11_need_24 : decode cX11_need 24 = .ok (.athrow, 1) := by decide +kernel
theorem dX11_need_25 : decode cX11_need 25 = .ok (.return_, 1) := by decide +kernel
theorem dX12_init_0 : decode cX12_init 0 = .ok (.aload_n 0, 1) := by decide +kernel
theorem dX12_init_1 : decode cX12_init 1 = .ok (.invokespecial 1, 3) := by decide +kernel
theorem dX12_init_4 : decode cX12_init 4 = .ok (.aload_n 0, 1) := by decide +kernel
theorem dX12_init_5 : decode cX12_init 5 = .ok (.iconst (-1), 1) := by decide +kernel
theorem dX12_init_6 : decode cX12_init 6 = .ok (.putfield 9, 3) := by decide +kernel
theorem dX12_init_9 : decode cX12_init 9 = .ok (.aload_n 0, 1) := by decide +kernel
theorem dX12_init_10 : decode cX12_init 10 = .ok (.sipush 600, 3) := by decide +kernel
theorem dX12_init_13 : decode cX12_init 13 = .ok (.newarray .int, 2) := by decide +kernel
theorem dX12_init_15 : decode cX12_init 15 = .ok (.putfield 13, 3) := by decide +kernel
theorem dX12_init_18 : decode cX12_init 18 = .ok (.aload_n 0, 1) := by decide +kernel
theorem dX12_init_19 : decode cX12_init 19 = .ok (.iconst 2, 1) := by decide +kernel
theorem dX12_init_20 : decode cX12_init 20 = .ok (.newarray .int, 2) := by decide +kernel
theorem dX12_init_22 : decode cX12_init 22 = .ok (.putfield 17, 3) := by decide +kernel
theorem dX12_init_25 : decode cX12_init 25 = .ok (.aload_n 0, 1) := by decide +kernel
theorem dX12_init_26 : decode cX12_init 26 = .ok (.iconst 3, 1) := by decide +kernel
theorem dX12_init_27 : decode cX12_init 27 = .ok (.newarray .int, 2) := by decide +kernel
theorem dX12_init_29 : decode cX12_init 29 = .ok (.putfield 20, 3) := by decide +kernel
theorem dX12_init_32 : decode cX12_init 32 = .ok (.aload_n 0, 1) := by decide +kernel
theorem dX12_init_33 : decode cX12_init 33 = .ok (.iconst 3, 1) := by decide +kernel
theorem dX12_init_34 : decode cX12_init 34 = .ok (.newarray .int, 2) := by decide +kernel
theorem dX12_init_36 : decode cX12_init 36 = .ok (.putfield 23, 3) := by decide +kernel
theorem dX12_init_39 : decode cX12_init 39 = .ok (.aload_n 0, 1) := by decide +kernel
theorem dX12_init_40 : decode cX12_init 40 = .ok (.bipush 6, 2) := by decide +kernel
theorem dX12_init_42 : decode cX12_init 42 = .ok (.iconst 2, 1) := by decide +kernel
theorem dX12_init_43 : decode cX12_init 43 = .ok (.multianewarray 26 2, 4) := by decide +kernel
theorem dX12_init_47 : decode cX12_init 47 = .ok (.putfield 28, 3) := by decide +kernel
theorem dX12_init_50 : decode cX12_init 50 = .ok (.aload_n 0, 1) := by decide +kernel
theorem dX12_init_51 : decode cX12_init 51 = .ok (.bipush 6, 2) := by decide +kernel
theorem dX12_init_53 : decode cX12_init 53 = .ok (.iconst 2, 1) := by decide +kernel
theorem dX12_init_54 : decode cX12_init 54 = .ok (.multianewarray 26 2, 4) := by decide +kernel
theorem dX12_init_58 : decode cX12_init 58 = .ok (.putfield 31, 3) := by decide +kernel
theorem dX12_init_61 : decode cX12_init 61 = .ok (.aload_n 0, 1) := by decide +kernel
theorem dX12_init_62 : decode cX12_init 62 = .ok (.bipush 12, 2) := by decide +kernel
theorem dX12_init_64 : decode cX12_init 64 = .ok (.iconst 4, 1) := by decide +kernel
theorem dX12_init_65 : decode cX12_init 65 = .ok (.multianewarray 26 2, 4) := by decide +kernel
theorem dX12_init_69 : decode cX12_init 69 = .ok (.putfield 34, 3) := by decide +kernel
theorem dX12_init_72 : decode cX12_init 72 = .ok (.aload_n 0, 1) := by decide +kernel
theorem dX12_init_73 : decode cX12_init 73 = .ok (.bipush 13, 2) := by decide +kernel
theorem dX12_init_75 : decode cX12_init 75 = .ok (.iconst 4, 1) := by decide +kernel
theorem dX12_init_76 : decode cX12_init 76 = .ok (.multianewarray 26 2, 4) := by decide +kernel
theorem dX12_init_80 : decode cX12_init 80 = .ok (.putfield 37, 3) := by decide +kernel
theorem dX12_init_83 : decode cX12_init 83 = .ok (.aload_n 0, 1) := by decide +kernel
theorem dX12_init_84 : decode cX12_init 84 = .ok (.bipush 10, 2) := by decide +kernel
theorem dX12_init_86 : decode cX12_init 86 = .ok (.iconst 3, 1) := by decide +kernel
theorem dX12_init_87 : decode cX12_init 87 = .ok (.multianewarray 26 2, 4) := by decide +kernel
theorem dX12_init_91 : decode cX12_init 91 = .ok (.putfield 40, 3) := by decide +kernel
theorem dX12_init_94 : decode cX12_init 94 = .ok (.aload_n 0, 1) := by decide +kernel
theorem dX12_init_95 : decode cX12_init 95 = .ok (.bipush 10, 2) := by decide +kernel
theorem dX12_init_97 : decode cX12_init 97 = .ok (.iconst 3, 1) := by decide +kernel
theorem dX12_init_98 : decode cX12_init 98 = .ok (.multianewarray 26 2, 4) := by decide +kernel
theorem dX12_init_102 : decode cX12_init 102 = .ok (.putfield 43, 3) := by decide +kernel
theorem dX12_init_105 : decode cX12_init 105 = .ok (.aload_n 0, 1) := by decide +kernel
theorem dX12_init_106 : decode cX12_init 106 = .ok (.sipush 160, 3) := by decide +kernel
theorem dX12_init_109 : decode cX12_init 109 = .ok (.iconst 2, 1) := by decide +kernel
theorem dX12_init_110 : decode cX12_init 110 = .ok (.multianewarray 26 2, 4) := by decide +kernel
theorem dX12_init_114 : decode cX12_init 114 = .ok (.putfield 46, 3) := by decide +kernel
theorem dX12_init_117 : decode cX12_init 117 = .ok (.aload_n 0, 1) := by decide +kernel
theorem dX12_init_118 : decode cX12_init 118 = .ok (.sipush 160, 3) := by decide +kernel
theorem dX12_init_121 : decode cX12_init 121 = .ok (.iconst 2, 1) := by decide +kernel
theorem dX12_init_122 : decode cX12_init 122 = .ok (.multianewarray 26 2, 4) := by decide +kernel
theorem dX12_init_126 : decode cX12_init 126 = .ok (.putfield 49, 3) := by decide +kernel
theorem dX12_init_129 : decode cX12_init 129 = .ok (.aload_n 0, 1) := by decide +kernel
theorem dX12_init_130 : decode cX12_init 130 = .ok (.bipush 6, 2) := by decide +kernel
theorem dX12_init_132 : decode cX12_init 132 = .ok (.iconst 2, 1) := by decide +kernel
theorem dX12_init_133 : decode cX12_init 133 = .ok (.multianewarray 26 2, 4) := by decide +kernel
theorem dX12_init_137 : decode cX12_init 137 = .ok (.putfield 52, 3) := by decide +kernel
theorem dX12_init_140 : decode cX12_init 140 = .ok (.aload_n 0, 1) := by decide +kernel
theorem dX12_init_141 : decode cX12_init 141 = .ok (.bipush 6, 2) := by decide +kernel
theorem dX12_init_143 : decode cX12_init 143 = .ok (.iconst 2, 1) := by decide +kernel
theorem dX12_init_144 : decode cX12_init 144 = .ok (.multianewarray 26 2, 4) := by decide +kernel
theorem dX12_init_148 : decode cX12_init 148 = .ok (.putfield 55, 3) := by decide +kernel
theorem dX12_init_151 : decode cX12_init 151 = .ok (.aload_n 0, 1) := by decide +kernel
theorem dX12_init_152 : decode cX12_init 152 = .ok (.sipush 160, 3) := by decide +kernel
theorem dX12_init_155 : decode cX12_init 155 = .ok (.newarray .int, 2) := by decide +kernel
theorem dX12_init_157 : decode cX12_init 157 = .ok (.putfield 58, 3) := by decide +kernel
theorem dX12_init_160 : decode cX12_init 160 = .ok (.aload_n 0, 1) := by decide +kernel
theorem dX12_init_161 : decode cX12_init 161 = .ok (.bipush 8, 2) := by decide +kernel
theorem dX12_init_163 : decode cX12_init 163 = .ok (.newarray .int, 2) := by decide +kernel
theorem dX12_init_165 : decode cX12_init 165 = .ok (.putfield 61, 3) := by decide +kernel
theorem dX12_init_168 : decode cX12_init 168 = .ok (.aload_n 0, 1) := by decide +kernel
theorem dX12_init_169 : decode cX12_init 169 = .ok (.bipush 80, 2) := by decide +kernel
theorem dX12_init_171 : decode cX12_init 171 = .ok (.iconst 4, 1) := by decide +kernel
theorem dX12_init_172 : decode cX12_init 172 = .ok (.multianewarray 26 2, 4) := by decide +kernel
theorem dX12_init_176 : decode cX12_init 176 = .ok (.putfield 64, 3) := by decide +kernel
theorem dX12_init_179 : decode cX12_init 179 = .ok (.aload_n 0, 1) := by decide +kernel
theorem dX12_init_180 : decode cX12_init 180 = .ok (.bipush 83, 2) := by decide +kernel
theorem dX12_init_182 : decode cX12_init 182 = .ok (.newarray .int, 2) := by decide +kernel
theorem dX12_init_184 : decode cX12_init 184 = .ok (.putfield 67, 3) := by decide +kernel
theorem dX12_init_187 : decode cX12_init 187 = .ok (.aload_n 0, 1) := by decide +kernel
theorem dX12_init_188 : decode cX12_init 188 = .ok (.bipush 83, 2) := by decide +kernel
theorem dX12_init_190 : decode cX12_init 190 = .ok (.newarray .int, 2) := by decide +kernel
theorem dX12_init_192 : decode cX12_init 192 = .ok (.putfield 70, 3) := by decide +kernel
theorem dX12_init_195 : decode cX12_init 195 = .ok (.aload_n 0, 1) := by decide +kernel
theorem dX12_init_196 : decode cX12_init 196 = .ok (.bipush 13, 2) := by decide +kernel
theorem dX12_init_198 : decode cX12_init 198 = .ok (.newarray .int, 2) := by decide +kernel
theorem dX12_init_200 : decode cX12_init 200 = .ok (.putfield 73, 3) := by decide +kernel
theorem dX12_init_203 : decode cX12_init 203 = .ok (.aload_n 0, 1) := by decide +kernel
theorem dX12_init_204 : decode cX12_init 204 = .ok (.bipush 16, 2) := by decide +kernel
theorem dX12_init_206 : decode cX12_init 206 = .ok (.bipush 83, 2) := by decide +kernel
theorem dX12_init_208 : decode cX12_init 208 = .ok (.multianewarray 26 2, 4) := by decide +kernel
theorem dX12_init_212 : decode cX12_init 212 = .ok (.putfield 76, 3) := by decide +kernel
theorem dX12_init_215 : decode cX12_init 215 = .ok (.aload_n 0, 1) := by decide +kernel
theorem dX12_init_216 : decode cX12_init 216 = .ok (.iconst 3, 1) := by decide +kernel
theorem dX12_init_217 : decode cX12_init 217 = .ok (.sipush 1412, 3) := by decide +kernel
theorem dX12_init_220 : decode cX12_init 220 = .ok (.multianewarray 26 2, 4) := by decide +kernel
theorem dX12_init_224 : decode cX12_init 224 = .ok (.putfield 79, 3) := by decide +kernel
theorem dX12_init_227 : decode cX12_init 227 = .ok (.aload_n 0, 1) := by decide +kernel
theorem dX12_init_228 : decode cX12_init 228 = .ok (.bipush 6, 2) := by decide +kernel
theorem dX12_init_230 : decode cX12_init 230 = .ok (.newarray .int, 2) := by decide +kernel
theorem dX12_init_232 : decode cX12_init 232 = .ok (.putfield 82, 3) := by decide +kernel
theorem dX12_init_235 : decode cX12_init 235 = .ok (.aload_n 0, 1) := by decide +kernel
theorem dX12_init_236 : decode cX12_init 236 = .ok (.bipush 13, 2) := by decide +kernel
theorem dX12_init_238 : decode cX12_init 238 = .ok (.newarray .int, 2) := by decide +kernel
theorem dX12_init_240 : decode cX12_init 240 = .ok (.putfield 85, 3) := by decide +kernel
theorem dX12_init_243 : decode cX12_init 243 = .ok (.aload_n 0, 1) := by decide +kernel
theorem dX12_init_244 : decode cX12_init 244 = .ok (.bipush 100, 2) := by decide +kernel
theorem dX12_init_246 : decode cX12_init 246 = .ok (.newarray .int, 2) := by decide +kernel
theorem dX12_init_248 : decode cX12_init 248 = .ok (.putfield 88, 3) := by decide +kernel
theorem dX12_init_251 : decode cX12_init 251 = .ok (.aload_n 0, 1) := by decide +kernel
theorem dX12_init_252 : decode cX12_init 252 = .ok (.bipush 6, 2) := by decide +kernel
theorem dX12_init_254 : decode cX12_init 254 = .ok (.newarray .int, 2) := by decide +kernel
theorem dX12_init_256 : decode cX12_init 256 = .ok (.putfield 91, 3) := by decide +kernel
theorem dX12_init_259 : decode cX12_init 259 = .ok (.aload_n 0, 1) := by decide +kernel
theorem dX12_init_260 : decode cX12_init 260 = .ok (.bipush 14, 2) := by decide +kernel
theorem dX12_init_262 : decode cX12_init 262 = .ok (.newarray .long, 2) := by decide +kernel
theorem dX12_init_264 : decode cX12_init 264 = .ok (.putfield 94, 3) := by decide +kernel
theorem dX12_init_267 : decode cX12_init 267 = .ok (.aload_n 0, 1) := by decide +kernel
theorem dX12_init_268 : decode cX12_init 268 = .ok (.invokevirtual 98, 3) := by decide +kernel
theorem dX12_init_271 : decode cX12_init 271 = .ok (.aload_n 0, 1) := by decide +kernel
theorem dX12_init_272 : decode cX12_init 272 = .ok (.invokevirtual 101, 3) := by decide +kernel
theorem dX12_init_275 : decode cX12_init 275 = .ok (.return_, 1) := by decide +kernel
theorem dX12_tellsNothing_0 : decode cX12_tellsNothing 0 = .ok (.iconst 0, 1) := by decide +kernel
theorem dX12_tellsNothing_1 : decode cX12_tellsNothing 1 = .ok (.istore_n 1, 1) := by decide +kernel
theorem dX12_tellsNothing_2 : decode cX12_tellsNothing 2 = .ok (.iload_n 1, 1) := by decide +kernel
theorem dX12_tellsNothing_3 : decode cX12_tellsNothing 3 = .ok (.iconst 3, 1) := by decide +kernel
theorem dX12_tellsNothing_4 : decode cX12_tellsNothing 4 = .ok (.if_icmp .ge 16, 3) := by decide +kernel
theorem dX12_tellsNothing_7 : decode cX12_tellsNothing 7 = .ok (.aload_n 0, 1) := by decide +kernel
theorem dX12_tellsNothing_8 : decode cX12_tellsNothing 8 = .ok (.getfield 20, 3) := by decide +kernel
theorem dX12_tellsNothing_11 : decode cX12_tellsNothing 11 = .ok (.iload_n 1, 1) := by decide +kernel
theorem dX12_tellsNothing_12 : decode cX12_tellsNothing 12 = .ok (.iconst 0, 1) := by decide +kernel
theorem dX12_tellsNothing_13 : decode cX12_tellsNothing 13 = .ok (.iastore, 1) := by decide +kernel
theorem dX12_tellsNothing_14 : decode cX12_tellsNothing 14 = .ok (.iinc 1 1, 3) := by decide +kernel
theorem dX12_tellsNothing_17 : decode cX12_tellsNothing 17 = .ok (.goto (-15), 3) := by decide +kernel
theorem dX12_tellsNothing_20 : decode cX12_tellsNothing 20 = .ok (.return_, 1) := by decide +kernel
theorem dX12_thrown_0 : decode cX12_thrown 0 = .ok (.aload_n 0, 1) := by decide +kernel
theorem dX12_thrown_1 : decode cX12_thrown 1 = .ok (.getfield 104, 3) := by decide +kernel
theorem dX12_thrown_4 : decode cX12_thrown 4 = .ok (.ireturn, 1) := by decide +kernel
theorem dX12_bad_0 : decode cX12_bad 0 = .ok (.iload_n 1, 1) := by decide +kernel
theorem dX12_bad_1 : decode cX12_bad 1 = .ok (.ifCond .eq 25, 3) := by decide +kernel
theorem dX12_bad_4 : decode cX12_bad 4 = .ok (.aload_n 0, 1) := by decide +kernel
theorem dX12_bad_5 : decode cX12_bad 5 = .ok (.getfield 104, 3) := by decide +kernel
theorem dX12_bad_8 : decode cX12_bad 8 = .ok (.ifCond .ne 18, 3) := by decide +kernel
theorem dX12_bad_11 : decode cX12_bad 11 = .ok (.aload_n 0, 1) := by decide +kernel
theorem dX12_bad_12 : decode cX12_bad 12 = .ok (.iload_n 2, 1) := by decide +kernel
theorem dX12_bad_13 : decode cX12_bad 13 = .ok (.putfield 104, 3) := by decide +kernel
theorem dX12_bad_16 : decode cX12_bad 16 = .ok (.aload_n 0, 1) := by decide +kernel
theorem dX12_bad_17 : decode cX12_bad 17 = .ok (.getfield 17, 3) := by decide +kernel
theorem dX12_bad_20 : decode cX12_bad 20 = .ok (.iload_n 3, 1) := by decide +kernel
theorem dX12_bad_21 : decode cX12_bad 21 = .ok (.dup2, 1) := by decide +kernel
theorem dX12_bad_22 : decode cX12_bad 22 = .ok (.iaload, 1) := by decide +kernel
theorem dX12_bad_23 : decode cX12_bad 23 = .ok (.iconst 1, 1) := by decide +kernel
theorem dX12_bad_24 : decode cX12_bad 24 = .ok (.iadd, 1) := by decide +kernel
theorem dX12_bad_25 : decode cX12_bad 25 = .ok (.iastore, 1) := by decide +kernel
theorem dX12_bad_26 : decode cX12_bad 26 = .ok (.aload_n 0, 1) := by decide +kernel
theorem dX12_bad_27 : decode cX12_bad 27 = .ok (.getfield 104, 3) := by decide +kernel
theorem dX12_bad_30 : decode cX12_bad 30 = .ok (.ifCond .eq 7, 3) := by decide +kernel
theorem dX12_bad_33 : decode cX12_bad 33 = .ok (.iconst 1, 1) := by decide +kernel
theorem dX12_bad_34 : decode cX12_bad 34 = .ok (.goto 4, 3) := by decide +kernel
theorem dX12_bad_37 : decode cX12_bad 37 = .ok (.iconst 0, 1) := by decide +kernel
theorem dX12_bad_38 : decode cX12_bad 38 = .ok (.ireturn, 1) := by decide +kernel
theorem dX12_in_0 : decode cX12_in 0 = .ok (.iload_n 0, 1) := by decide +kernel
theorem dX12_in_1 : decode cX12_in 1 = .ok (.iload_n 1, 1) := by decide +kernel
theorem dX12_in_2 : decode cX12_in 2 = .ok (.if_icmp .lt 12, 3) := by decide +kernel
theorem dX12_in_5 : decode cX12_in 5 = .ok (.iload_n 0, 1) := by decide +kernel
theorem dX12_in_6 : decode cX12_in 6 = .ok (.iload_n 2, 1) := by decide +kernel
theorem dX12_in_7 : decode cX12_in 7 = .ok (.if_icmp .gt 7, 3) := by decide +kernel
theorem dX12_in_10 : decode cX12_in 10 = .ok (.iconst 1, 1) := by decide +kernel
theorem dX12_in_11 : decode cX12_in 11 = .ok (.goto 4, 3) := by decide +kernel
theorem dX12_in_14 : decode cX12_in 14 = .ok (.iconst 0, 1) := by decide +kernel
theorem dX12_in_15 : decode cX12_in 15 = .ok (.ireturn, 1) := by decide +kernel
theorem dX12_less_0 : decode cX12_less 0 = .ok (.iload_n 0, 1) := by decide +kernel
theorem dX12_less_1 : decode cX12_less 1 = .ok (.iload_n 1, 1) := by decide +kernel
theorem dX12_less_2 : decode cX12_less 2 = .ok (.if_icmp .ge 7, 3) := by decide +kernel
theorem dX12_less_5 : decode cX12_less 5 = .ok (.iload_n 0, 1) := by decide +kernel
theorem dX12_less_6 : decode cX12_less 6 = .ok (.goto 4, 3) := by decide +kernel
theorem dX12_less_9 : decode cX12_less 9 = .ok (.iload_n 1, 1) := by decide +kernel
theorem dX12_less_10 : decode cX12_less 10 = .ok (.ireturn, 1) := by decide +kernel
theorem dX12_more_0 : decode cX12_more 0 = .ok (.iload_n 0, 1) := by decide +kernel
theorem dX12_more_1 : decode cX12_more 1 = .ok (.iload_n 1, 1) := by decide +kernel
theorem dX12_more_2 : decode cX12_more 2 = .ok (.if_icmp .le 7, 3) := by decide +kernel
theorem dX12_more_5 : decode cX12_more 5 = .ok (.iload_n 0, 1) := by decide +kernel
theorem dX12_more_6 : decode cX12_more 6 = .ok (.goto 4, 3) := by decide +kernel
theorem dX12_more_9 : decode cX12_more 9 = .ok (.iload_n 1, 1) := by decide +kernel
theorem dX12_more_10 : decode cX12_more 10 = .ok (.ireturn, 1) := by decide +kernel
theorem dX12_has_0 : decode cX12_has 0 = .ok (.iload_n 0, 1) := by decide +kernel
theorem dX12_has_1 : decode cX12_has 1 = .ok (.iload_n 1, 1) := by decide +kernel
theorem dX12_has_2 : decode cX12_has 2 = .ok (.ishr, 1) := by decide +kernel
theorem dX12_has_3 : decode cX12_has 3 = .ok (.iconst 1, 1) := by decide +kernel
theorem dX12_has_4 : decode cX12_has 4 = .ok (.iand, 1) := by decide +kernel
theorem dX12_has_5 : decode cX12_has 5 = .ok (.iconst 1, 1) := by decide +kernel
theorem dX12_has_6 : decode cX12_has 6 = .ok (.if_icmp .ne 7, 3) := by decide +kernel
theorem dX12_has_9 : decode cX12_has 9 = .ok (.iconst 1, 1) := by decide +kernel
theorem dX12_has_10 : decode cX12_has 10 = .ok (.goto 4, 3) := by decide +kernel
theorem dX12_has_13 : decode cX12_has 13 = .ok (.iconst 0, 1) := by decide +kernel
theorem dX12_has_14 : decode cX12_has 14 = .ok (.ireturn, 1) := by decide +kernel
theorem dX12_feed_0 : decode cX12_feed 0 = .ok (.aload_n 0, 1) := by decide +kernel
theorem dX12_feed_1 : decode cX12_feed 1 = .ok (.iconst 0, 1) := by decide +kernel
theorem dX12_feed_2 : decode cX12_feed 2 = .ok (.putfield 104, 3) := by decide +kernel
theorem dX12_feed_5 : decode cX12_feed 5 = .ok (.aload_n 0, 1) := by decide +kernel
theorem dX12_feed_6 : decode cX12_feed 6 = .ok (.getfield 107, 3) := by decide +kernel
theorem dX12_feed_9 : decode cX12_feed 9 = .ok (.bipush 20, 2) := by decide +kernel
theorem dX12_feed_11 : decode cX12_feed 11 = .ok (.iadd, 1) := by decide +kernel
theorem dX12_feed_12 : decode cX12_feed 12 = .ok (.sipush 600, 3) := by decide +kernel
theorem dX12_feed_15 : decode cX12_feed 15 = .ok (.if_icmp .le 5, 3) := by decide +kernel
theorem dX12_feed_18 : decode cX12_feed 18 = .ok (.iconst (-1), 1) := by decide +kernel
theorem dX12_feed_19 : decode cX12_feed 19 = .ok (.ireturn, 1) := by decide +kernel
theorem dX12_feed_20 : decode cX12_feed 20 = .ok (.iconst 0, 1) := by decide +kernel
theorem dX12_feed_21 : decode cX12_feed 21 = .ok (.istore 6, 2) := by decide +kernel
theorem dX12_feed_23 : decode cX12_feed 23 = .ok (.iload 6, 2) := by decide +kernel
theorem dX12_feed_25 : decode cX12_feed 25 = .ok (.bipush 20, 2) := by decide +kernel
theorem dX12_feed_27 : decode cX12_feed 27 = .ok (.if_icmp .ge 93, 3) := by decide +kernel
theorem dX12_feed_30 : decode cX12_feed 30 = .ok (.iload 6, 2) := by decide +kernel
theorem dX12_feed_32 : decode cX12_feed 32 = .ok (.iconst 4, 1) := by decide +kernel
theorem dX12_feed_33 : decode cX12_feed 33 = .ok (.if_icmp .ge 7, 3) := by decide +kernel
theorem dX12_feed_36 : decode cX12_feed 36 = .ok (.iload_n 1, 1) := by decide +kernel
theorem dX12_feed_37 : decode cX12_feed 37 = .ok (.goto 39, 3) := by decide +kernel
theorem dX12_feed_40 : decode cX12_feed 40 = .ok (.iload 6, 2) := by decide +kernel
theorem dX12_feed_42 : decode cX12_feed 42 = .ok (.bipush 8, 2) := by decide +kernel
theorem dX12_feed_44 : decode cX12_feed 44 = .ok (.if_icmp .ge 7, 3) := by decide +kernel
theorem dX12_feed_47 : decode cX12_feed 47 = .ok (.iload_n 2, 1) := by decide +kernel
theorem dX12_feed_48 : decode cX12_feed 48 = .ok (.goto 28, 3) := by decide +kernel
theorem dX12_feed_51 : decode cX12_feed 51 = .ok (.iload 6, 2) := by decide +kernel
theorem dX12_feed_53 : decode cX12_feed 53 = .ok (.bipush 12, 2) := by decide +kernel
theorem dX12_feed_55 : decode cX12_feed 55 = .ok (.if_icmp .ge 7, 3) := by decide +kernel
theorem dX12_feed_58 : decode cX12_feed 58 = .ok (.iload_n 3, 1) := by decide +kernel
theorem dX12_feed_59 : decode cX12_feed 59 = .ok (.goto 17, 3) := by decide +kernel
theorem dX12_feed_62 : decode cX12_feed 62 = .ok (.iload 6, 2) := by decide +kernel
theorem dX12_feed_64 : decode cX12_feed 64 = .ok (.bipush 16, 2) := by decide +kernel
theorem dX12_feed_66 : decode cX12_feed 66 = .ok (.if_icmp .ge 8, 3) := by decide +kernel
theorem dX12_feed_69 : decode cX12_feed 69 = .ok (.iload 4, 2) := by decide +kernel
theorem dX12_feed_71 : decode cX12_feed 71 = .ok (.goto 5, 3) := by decide +kernel
theorem dX12_feed_74 : decode cX12_feed 74 = .ok (.iload 5, 2) := by decide +kernel
theorem dX12_feed_76 : decode cX12_feed 76 = .ok (.istore 7, 2) := by decide +kernel
theorem dX12_feed_78 : decode cX12_feed 78 = .ok (.aload_n 0, 1) := by decide +kernel
theorem dX12_feed_79 : decode cX12_feed 79 = .ok (.getfield 13, 3) := by decide +kernel
theorem dX12_feed_82 : decode cX12_feed 82 = .ok (.aload_n 0, 1) := by decide +kernel
theorem dX12_feed_83 : decode cX12_feed 83 = .ok (.getfield 107, 3) := by decide +kernel
theorem dX12_feed_86 : decode cX12_feed 86 = .ok (.iload 7, 2) := by decide +kernel
theorem dX12_feed_88 : decode cX12_feed 88 = .ok (.bipush 24, 2) := by decide +kernel
theorem dX12_feed_90 : decode cX12_feed 90 = .ok (.bipush 8, 2) := by decide +kernel
theorem dX12_feed_92 : decode cX12_feed 92 = .ok (.iload 6, 2) := by decide +kernel
theorem dX12_feed_94 : decode cX12_feed 94 = .ok (.iconst 4, 1) := by decide +kernel
theorem dX12_feed_95 : decode cX12_feed 95 = .ok (.irem, 1) := by decide +kernel
theorem dX12_feed_96 : decode cX12_feed 96 = .ok (.imul, 1) := by decide +kernel
theorem dX12_feed_97 : decode cX12_feed 97 = .ok (.isub, 1) := by decide +kernel
theorem dX12_feed_98 : decode cX12_feed 98 = .ok (.ishr, 1) := by decide +kernel
theorem dX12_feed_99 : decode cX12_feed 99 = .ok (.sipush 255, 3) := by decide +kernel
theorem dX12_feed_102 : decode cX12_feed 102 = .ok (.iand, 1) := by decide +kernel
theorem dX12_feed_103 : decode cX12_feed 103 = .ok (.iastore, 1) := by decide +kernel
theorem dX12_feed_104 : decode cX12_feed 104 = .ok (.aload_n 0, 1) := by decide +kernel
theorem dX12_feed_105 : decode cX12_feed 105 = .ok (.dup, 1) := by decide +kernel
theorem dX12_feed_106 : decode cX12_feed 106 = .ok (.getfield 107, 3) := by decide +kernel
theorem dX12_feed_109 : decode cX12_feed 109 = .ok (.iconst 1, 1) := by decide +kernel
theorem dX12_feed_110 : decode cX12_feed 110 = .ok (.iadd, 1) := by decide +kernel
theorem dX12_feed_111 : decode cX12_feed 111 = .ok (.putfield 107, 3) := by decide +kernel
theorem dX12_feed_114 : decode cX12_feed 114 = .ok (.iinc 6 1, 3) := by decide +kernel
theorem dX12_feed_117 : decode cX12_feed 117 = .ok (.goto (-94), 3) := by decide +kernel
theorem dX12_feed_120 : decode cX12_feed 120 = .ok (.aload_n 0, 1) := by decide +kernel
theorem dX12_feed_121 : decode cX12_feed 121 = .ok (.getfield 107, 3) := by decide +kernel
theorem dX12_feed_124 : decode cX12_feed 124 = .ok (.ireturn, 1) := by decide +kernel
theorem dX12_byteAt_0 : decode cX12_byteAt 0 = .ok (.iload_n 1, 1) := by decide +kernel
theorem dX12_byteAt_1 : decode cX12_byteAt 1 = .ok (.aload_n 0, 1) := by decide +kernel
theorem dX12_byteAt_2 : decode cX12_byteAt 2 = .ok (.getfield 110, 3) := by decide +kernel
theorem dX12_byteAt_5 : decode cX12_byteAt 5 = .ok (.if_icmp .lt 7, 3) := by decide +kernel
theorem dX12_byteAt_8 : decode cX12_byteAt 8 = .ok (.iconst (-1), 1) := by decide +kernel
theorem dX12_byteAt_9 : decode cX12_byteAt 9 = .ok (.goto 9, 3) := by decide +kernel
theorem dX12_byteAt_12 : decode cX12_byteAt 12 = .ok (.aload_n 0, 1) := by decide +kernel
theorem dX12_byteAt_13 : decode cX12_byteAt 13 = .ok (.getfield 13, 3) := by decide +kernel
theorem dX12_byteAt_16 : decode cX12_byteAt 16 = .ok (.iload_n 1, 1) := by decide +kernel
theorem dX12_byteAt_17 : decode cX12_byteAt 17 = .ok (.iaload, 1) := by decide +kernel
theorem dX12_byteAt_18 : decode cX12_byteAt 18 = .ok (.ireturn, 1) := by decide +kernel
theorem dX12_blanks_0 : decode cX12_blanks 0 = .ok (.aload_n 0, 1) := by decide +kernel
theorem dX12_blanks_1 : decode cX12_blanks 1 = .ok (.aload_n 0, 1) := by decide +kernel
theorem dX12_blanks_2 : decode cX12_blanks 2 = .ok (.getfield 113, 3) := by decide +kernel
theorem dX12_blanks_5 : decode cX12_blanks 5 = .ok (.invokevirtual 116, 3) := by decide +kernel
theorem dX12_blanks_8 : decode cX12_blanks 8 = .ok (.bipush 32, 2) := by decide +kernel
theorem dX12_blanks_10 : decode cX12_blanks 10 = .ok (.if_icmp .ne 16, 3) := by decide +kernel
theorem dX12_blanks_13 : decode cX12_blanks 13 = .ok (.aload_n 0, 1) := by decide +kernel
theorem dX12_blanks_14 : decode cX12_blanks 14 = .ok (.dup, 1) := by decide +kernel
theorem dX12_blanks_15 : decode cX12_blanks 15 = .ok (.getfield 113, 3) := by decide +kernel
theorem dX12_blanks_18 : decode cX12_blanks 18 = .ok (.iconst 1, 1) := by decide +kernel
theorem dX12_blanks_19 : decode cX12_blanks 19 = .ok (.iadd, 1) := by decide +kernel
theorem dX12_blanks_20 : decode cX12_blanks 20 = .ok (.putfield 113, 3) := by decide +kernel
theorem dX12_blanks_23 : decode cX12_blanks 23 = .ok (.goto (-23), 3) := by decide +kernel
theorem dX12_blanks_26 : decode cX12_blanks 26 = .ok (.return_, 1) := by decide +kernel
theorem dX12_wrong_0 : decode cX12_wrong 0 = .ok (.aload_n 0, 1) := by decide +kernel
theorem dX12_wrong_1 : decode cX12_wrong 1 = .ok (.getfield 120, 3) := by decide +kernel
theorem dX12_wrong_4 : decode cX12_wrong 4 = .ok (.ifCond .ne 13, 3) := by decide +kernel
theorem dX12_wrong_7 : decode cX12_wrong 7 = .ok (.aload_n 0, 1) := by decide +kernel
theorem dX12_wrong_8 : decode cX12_wrong 8 = .ok (.iload_n 1, 1) := by decide +kernel
theorem dX12_wrong_9 : decode cX12_wrong 9 = .ok (.putfield 120, 3) := by decide +kernel
theorem dX12_wrong_12 : decode cX12_wrong 12 = .ok (.aload_n 0, 1) := by decide +kernel
theorem dX12_wrong_13 : decode cX12_wrong 13 = .ok (.iload_n 2, 1) := by decide +kernel
theorem dX12_wrong_14 : decode cX12_wrong 14 = .ok (.putfield 123, 3) := by decide +kernel
theorem dX12_wrong_17 : decode cX12_wrong 17 = .ok (.return_, 1) := by decide +kernel
theorem dX12_isDigit_0 : decode cX12_isDigit 0 = .ok (.iload_n 0, 1) := by decide +kernel
theorem dX12_isDigit_1 : decode cX12_isDigit 1 = .ok (.bipush 48, 2) := by decide +kernel
theorem dX12_isDigit_3 : decode cX12_isDigit 3 = .ok (.if_icmp .lt 13, 3) := by decide +kernel
theorem dX12_isDigit_6 : decode cX12_isDigit 6 = .ok (.iload_n 0, 1) := by decide +kernel
theorem dX12_isDigit_7 : decode cX12_isDigit 7 = .ok (.bipush 57, 2) := by decide +kernel
theorem dX12_isDigit_9 : decode cX12_isDigit 9 = .ok (.if_icmp .gt 7, 3) := by decide +kernel
theorem dX12_isDigit_12 : decode cX12_isDigit 12 = .ok (.iconst 1, 1) := by decide +kernel
theorem dX12_isDigit_13 : decode cX12_isDigit 13 = .ok (.goto 4, 3) := by decide +kernel
theorem dX12_isDigit_16 : decode cX12_isDigit 16 = .ok (.iconst 0, 1) := by decide +kernel
theorem dX12_isDigit_17 : decode cX12_isDigit 17 = .ok (.ireturn, 1) := by decide +kernel
theorem dX12_isSmall_0 : decode cX12_isSmall 0 = .ok (.iload_n 0, 1) := by decide +kernel
theorem dX12_isSmall_1 : decode cX12_isSmall 1 = .ok (.bipush 97, 2) := by decide +kernel
theorem dX12_isSmall_3 : decode cX12_isSmall 3 = .ok (.if_icmp .lt 13, 3) := by decide +kernel
theorem dX12_isSmall_6 : decode cX12_isSmall 6 = .ok (.iload_n 0, 1) := by decide +kernel
theorem dX12_isSmall_7 : decode cX12_isSmall 7 = .ok (.bipush 122, 2) := by decide +kernel
theorem dX12_isSmall_9 : decode cX12_isSmall 9 = .ok (.if_icmp .gt 7, 3) := by decide +kernel
theorem dX12_isSmall_12 : decode cX12_isSmall 12 = .ok (.iconst 1, 1) := by decide +kernel
theorem dX12_isSmall_13 : decode cX12_isSmall 13 = .ok (.goto 4, 3) := by decide +kernel
theorem dX12_isSmall_16 : decode cX12_isSmall 16 = .ok (.iconst 0, 1) := by decide +kernel
theorem dX12_isSmall_17 : decode cX12_isSmall 17 = .ok (.ireturn, 1) := by decide +kernel
theorem dX12_number_0 : decode cX12_number 0 = .ok (.aload_n 0, 1) := by decide +kernel
theorem dX12_number_1 : decode cX12_number 1 = .ok (.getfield 120, 3) := by decide +kernel
theorem dX12_number_4 : decode cX12_number 4 = .ok (.ifCond .eq 5, 3) := by decide +kernel
theorem dX12_number_7 : decode cX12_number 7 = .ok (.iconst 0, 1) := by decide +kernel
theorem dX12_number_8 : decode cX12_number 8 = .ok (.ireturn, 1) := by decide +kernel
theorem dX12_number_9 : decode cX12_number 9 = .ok (.aload_n 0, 1) := by decide +kernel
theorem dX12_number_10 : decode cX12_number 10 = .ok (.invokevirtual 126, 3) := by decide +kernel
theorem dX12_number_13 : decode cX12_number 13 = .ok (.aload_n 0, 1) := by decide +kernel
theorem dX12_number_14 : decode cX12_number 14 = .ok (.getfield 113, 3) := by decide +kernel
theorem dX12_number_17 : decode cX12_number 17 = .ok (.istore_n 3, 1) := by decide +kernel
theorem dX12_number_18 : decode cX12_number 18 = .ok (.iconst 0, 1) := by decide +kernel
theorem dX12_number_19 : decode cX12_number 19 = .ok (.istore 4, 2) := by decide +kernel
theorem dX12_number_21 : decode cX12_number 21 = .ok (.aload_n 0, 1) := by decide +kernel
theorem dX12_number_22 : decode cX12_number 22 = .ok (.aload_n 0, 1) := by decide +kernel
theorem dX12_number_23 : decode cX12_number 23 = .ok (.getfield 113, 3) := by decide +kernel
theorem dX12_number_26 : decode cX12_number 26 = .ok (.invokevirtual 116, 3) := by decide +kernel
theorem dX12_number_29 : decode cX12_number 29 = .ok (.invokestatic 129, 3) := by decide +kernel
theorem dX12_number_32 : decode cX12_number 32 = .ok (.ifCond .ne 12, 3) := by decide +kernel
theorem dX12_number_35 : decode cX12_number 35 = .ok (.aload_n 0, 1) := by decide +kernel
theorem dX12_number_36 : decode cX12_number 36 = .ok (.iconst 1, 1) := by decide +kernel
theorem dX12_number_37 : decode cX12_number 37 = .ok (.aload_n 0, 1) := by decide +kernel
theorem dX12_number_38 : decode cX12_number 38 = .ok (.getfield 113, 3) := by decide +kernel
theorem dX12_number_41 : decode cX12_number 41 = .ok (.invokevirtual 133, 3) := by decide +kernel
theorem dX12_number_44 : decode cX12_number 44 = .ok (.aload_n 0, 1) := by decide +kernel
theorem dX12_number_45 : decode cX12_number 45 = .ok (.aload_n 0, 1) := by decide +kernel
theorem dX12_number_46 : decode cX12_number 46 = .ok (.getfield 113, 3) := by decide +kernel
theorem dX12_number_49 : decode cX12_number 49 = .ok (.invokevirtual 116, 3) := by decide +kernel
theorem dX12_number_52 : decode cX12_number 52 = .ok (.invokestatic 129, 3) := by decide +kernel
theorem dX12_number_55 : decode cX12_number 55 = .ok (.ifCond .eq 51, 3) := by decide +kernel
theorem dX12_number_58 : decode cX12_number 58 = .ok (.bipush 10, 2) := by decide +kernel
theorem dX12_number_60 : decode cX12_number 60 = .ok (.iload 4, 2) := by decide +kernel
theorem dX12_number_62 : decode cX12_number 62 = .ok (.imul, 1) := by decide +kernel
theorem dX12_number_63 : decode cX12_number 63 = .ok (.aload_n 0, 1) := by decide +kernel
theorem dX12_number_64 : decode cX12_number 64 = .ok (.aload_n 0, 1) := by decide +kernel
theorem dX12_number_65 : decode cX12_number 65 = .ok (.getfield 113, 3) := by decide +kernel
theorem dX12_number_68 : decode cX12_number 68 = .ok (.invokevirtual 116, 3) := by decide +kernel
theorem dX12_number_71 : decode cX12_number 71 = .ok (.iadd, 1) := by decide +kernel
theorem dX12_number_72 : decode cX12_number 72 = .ok (.bipush 48, 2) := by decide +kernel
theorem dX12_number_74 : decode cX12_number 74 = .ok (.isub, 1) := by decide +kernel
theorem dX12_number_75 : decode cX12_number 75 = .ok (.istore 4, 2) := by decide +kernel
theorem dX12_number_77 : decode cX12_number 77 = .ok (.iload 4, 2) := by decide +kernel
theorem dX12_number_79 : decode cX12_number 79 = .ok (.ldc 137, 2) := by decide +kernel
theorem dX12_number_81 : decode cX12_number 81 = .ok (.if_icmp .le 8, 3) := by decide +kernel
theorem dX12_number_84 : decode cX12_number 84 = .ok (.ldc 137, 2) := by decide +kernel
theorem dX12_number_86 : decode cX12_number 86 = .ok (.goto 5, 3) := by decide +kernel
theorem dX12_number_89 : decode cX12_number 89 = .ok (.iload 4, 2) := by decide +kernel
theorem dX12_number_91 : decode cX12_number 91 = .ok (.istore 4, 2) := by decide +kernel
theorem dX12_number_93 : decode cX12_number 93 = .ok (.aload_n 0, 1) := by decide +kernel
theorem dX12_number_94 : decode cX12_number 94 = .ok (.dup, 1) := by decide +kernel
theorem dX12_number_95 : decode cX12_number 95 = .ok (.getfield 113, 3) := by decide +kernel
theorem dX12_number_98 : decode cX12_number 98 = .ok (.iconst 1, 1) := by decide +kernel
theorem dX12_number_99 : decode cX12_number 99 = .ok (.iadd, 1) := by decide +kernel
theorem dX12_number_100 : decode cX12_number 100 = .ok (.putfield 113, 3) := by decide +kernel
theorem dX12_number_103 : decode cX12_number 103 = .ok (.goto (-59), 3) := by decide +kernel
theorem dX12_number_106 : decode cX12_number 106 = .ok (.iload 4, 2) := by decide +kernel
theorem dX12_number_108 : decode cX12_number 108 = .ok (.iload_n 1, 1) := by decide +kernel
theorem dX12_number_109 : decode cX12_number 109 = .ok (.iload_n 2, 1) := by decide +kernel
theorem dX12_number_110 : decode cX12_number 110 = .ok (.invokestatic 138, 3) := by decide +kernel
theorem dX12_number_113 : decode cX12_number 113 = .ok (.ifCond .ne 9, 3) := by decide +kernel
theorem dX12_number_116 : decode cX12_number 116 = .ok (.aload_n 0, 1) := by decide +kernel
theorem dX12_number_117 : decode cX12_number 117 = .ok (.iconst 2, 1) := by decide +kernel
theorem dX12_number_118 : decode cX12_number 118 = .ok (.iload_n 3, 1) := by decide +kernel
theorem dX12_number_119 : decode cX12_number 119 = .ok (.invokevirtual 133, 3) := by decide +kernel
theorem dX12_number_122 : decode cX12_number 122 = .ok (.aload_n 0, 1) := by decide +kernel
theorem dX12_number_123 : decode cX12_number 123 = .ok (.getfield 120, 3) := by decide +kernel
theorem dX12_number_126 : decode cX12_number 126 = .ok (.ifCond .ne 8, 3) := by decide +kernel
theorem dX12_number_129 : decode cX12_number 129 = .ok (.iload 4, 2) := by decide +kernel
theorem dX12_number_131 : decode cX12_number 131 = .ok (.goto 4, 3) := by decide +kernel
theorem dX12_number_134 : decode cX12_number 134 = .ok (.iconst 0, 1) := by decide +kernel
theorem dX12_number_135 : decode cX12_number 135 = .ok (.ireturn, 1) := by decide +kernel
theorem dX12_wordHere_0 : decode cX12_wordHere 0 = .ok (.aload_n 0, 1) := by decide +kernel
theorem dX12_wordHere_1 : decode cX12_wordHere 1 = .ok (.invokevirtual 126, 3) := by decide +kernel
theorem dX12_wordHere_4 : decode cX12_wordHere 4 = .ok (.iconst 0, 1) := by decide +kernel
theorem dX12_wordHere_5 : decode cX12_wordHere 5 = .ok (.istore_n 1, 1) := by decide +kernel
theorem dX12_wordHere_6 : decode cX12_wordHere 6 = .ok (.iconst 0, 1) := by decide +kernel
theorem dX12_wordHere_7 : decode cX12_wordHere 7 = .ok (.istore_n 2, 1) := by decide +kernel
theorem dX12_wordHere_8 : decode cX12_wordHere 8 = .ok (.aload_n 0, 1) := by decide +kernel
theorem dX12_wordHere_9 : decode cX12_wordHere 9 = .ok (.aload_n 0, 1) := by decide +kernel
theorem dX12_wordHere_10 : decode cX12_wordHere 10 = .ok (.getfield 113, 3) := by decide +kernel
theorem dX12_wordHere_13 : decode cX12_wordHere 13 = .ok (.iload_n 2, 1) := by decide +kernel
theorem dX12_wordHere_14 : decode cX12_wordHere 14 = .ok (.iadd, 1) := by decide +kernel
theorem dX12_wordHere_15 : decode cX12_wordHere 15 = .ok (.invokevirtual 116, 3) := by decide +kernel
theorem dX12_wordHere_18 : decode cX12_wordHere 18 = .ok (.invokestatic 142, 3) := by decide +kernel
theorem dX12_wordHere_21 : decode cX12_wordHere 21 = .ok (.ifCond .eq 40, 3) := by decide +kernel
theorem dX12_wordHere_24 : decode cX12_wordHere 24 = .ok (.iload_n 2, 1) := by decide +kernel
theorem dX12_wordHere_25 : decode cX12_wordHere 25 = .ok (.bipush 6, 2) := by decide +kernel
theorem dX12_wordHere_27 : decode cX12_wordHere 27 = .ok (.if_icmp .ge 26, 3) := by decide +kernel
theorem dX12_wordHere_30 : decode cX12_wordHere 30 = .ok (.bipush 27, 2) := by decide +kernel
theorem dX12_wordHere_32 : decode cX12_wordHere 32 = .ok (.iload_n 1, 1) := by decide +kernel
theorem dX12_wordHere_33 : decode cX12_wordHere 33 = .ok (.imul, 1) := by decide +kernel
theorem dX12_wordHere_34 : decode cX12_wordHere 34 = .ok (.aload_n 0, 1) := by decide +kernel
theorem dX12_wordHere_35 : decode cX12_wordHere 35 = .ok (.aload_n 0, 1) := by decide +kernel
theorem dX12_wordHere_36 : decode cX12_wordHere 36 = .ok (.getfield 113, 3) := by decide +kernel
theorem dX12_wordHere_39 : decode cX12_wordHere 39 = .ok (.iload_n 2, 1) := by decide +kernel
theorem dX12_wordHere_40 : decode cX12_wordHere 40 = .ok (.iadd, 1) := by decide +kernel
theorem dX12_wordHere_41 : decode cX12_wordHere 41 = .ok (.invokevirtual 116, 3) := by decide +kernel
theorem dX12_wordHere_44 : decode cX12_wordHere 44 = .ok (.iadd, 1) := by decide +kernel
theorem dX12_wordHere_45 : decode cX12_wordHere 45 = .ok (.bipush 97, 2) := by decide +kernel
theorem dX12_wordHere_47 : decode cX12_wordHere 47 = .ok (.isub, 1) := by decide +kernel
theorem dX12_wordHere_48 : decode cX12_wordHere 48 = .ok (.iconst 1, 1) := by decide +kernel
theorem dX12_wordHere_49 : decode cX12_wordHere 49 = .ok (.iadd, 1) := by decide +kernel
theorem dX12_wordHere_50 : decode cX12_wordHere 50 = .ok (.goto 4, 3) := by decide +kernel
theorem dX12_wordHere_53 : decode cX12_wordHere 53 = .ok (.iload_n 1, 1) := by decide +kernel
theorem dX12_wordHere_54 : decode cX12_wordHere 54 = .ok (.istore_n 1, 1) := by decide +kernel
theorem dX12_wordHere_55 : decode cX12_wordHere 55 = .ok (.iinc 2 1, 3) := by decide +kernel
theorem dX12_wordHere_58 : decode cX12_wordHere 58 = .ok (.goto (-50), 3) := by decide +kernel
theorem dX12_wordHere_61 : decode cX12_wordHere 61 = .ok (.iload_n 2, 1) := by decide +kernel
theorem dX12_wordHere_62 : decode cX12_wordHere 62 = .ok (.bipush 6, 2) := by decide +kernel
theorem dX12_wordHere_64 : decode cX12_wordHere 64 = .ok (.if_icmp .le 7, 3) := by decide +kernel
theorem dX12_wordHere_67 : decode cX12_wordHere 67 = .ok (.iconst (-1), 1) := by decide +kernel
theorem dX12_wordHere_68 : decode cX12_wordHere 68 = .ok (.goto 4, 3) := by decide +kernel
theorem dX12_wordHere_71 : decode cX12_wordHere 71 = .ok (.iload_n 1, 1) := by decide +kernel
theorem dX12_wordHere_72 : decode cX12_wordHere 72 = .ok (.ireturn, 1) := by decide +kernel
theorem dX12_six_0 : decode cX12_six 0 = .ok (.bipush 27, 2) := by decide +kernel
theorem dX12_six_2 : decode cX12_six 2 = .ok (.bipush 27, 2) := by decide +kernel
theorem dX12_six_4 : decode cX12_six 4 = .ok (.iload_n 0, 1) := by decide +kernel
theorem dX12_six_5 : decode cX12_six 5 = .ok (.imul, 1) := by decide +kernel
theorem dX12_six_6 : decode cX12_six 6 = .ok (.iload_n 1, 1) := by decide +kernel
theorem dX12_six_7 : decode cX12_six 7 = .ok (.iadd, 1) := by decide +kernel
theorem dX12_six_8 : decode cX12_six 8 = .ok (.imul, 1) := by decide +kernel
theorem dX12_six_9 : decode cX12_six 9 = .ok (.iload_n 2, 1) := by decide +kernel
theorem dX12_six_10 : decode cX12_six 10 = .ok (.iadd, 1) := by decide +kernel
theorem dX12_six_11 : decode cX12_six 11 = .ok (.istore 6, 2) := by decide +kernel
theorem dX12_six_13 : decode cX12_six 13 = .ok (.iload_n 3, 1) := by decide +kernel
theorem dX12_six_14 : decode cX12_six 14 = .ok (.ifCond .ne 8, 3) := by decide +kernel
theorem dX12_six_17 : decode cX12_six 17 = .ok (.iload 6, 2) := by decide +kernel
theorem dX12_six_19 : decode cX12_six 19 = .ok (.goto 10, 3) := by decide +kernel
theorem dX12_six_22 : decode cX12_six 22 = .ok (.bipush 27, 2) := by decide +kernel
theorem dX12_six_24 : decode cX12_six 24 = .ok (.iload 6, 2) := by decide +kernel
theorem dX12_six_26 : decode cX12_six 26 = .ok (.imul, 1) := by decide +kernel
theorem dX12_six_27 : decode cX12_six 27 = .ok (.iload_n 3, 1) := by decide +kernel
theorem dX12_six_28 : decode cX12_six 28 = .ok (.iadd, 1) := by decide +kernel
theorem dX12_six_29 : decode cX12_six 29 = .ok (.istore 6, 2) := by decide +kernel
theorem dX12_six_31 : decode cX12_six 31 = .ok (.iload 4, 2) := by decide +kernel
theorem dX12_six_33 : decode cX12_six 33 = .ok (.ifCond .ne 8, 3) := by decide +kernel
theorem dX12_six_36 : decode cX12_six 36 = .ok (.iload 6, 2) := by decide +kernel
theorem dX12_six_38 : decode cX12_six 38 = .ok (.goto 11, 3) := by decide +kernel
theorem dX12_six_41 : decode cX12_six 41 = .ok (.bipush 27, 2) := by decide +kernel
theorem dX12_six_43 : decode cX12_six 43 = .ok (.iload 6, 2) := by decide +kernel
theorem dX12_six_45 : decode cX12_six 45 = .ok (.imul, 1) := by decide +kernel
theorem dX12_six_46 : decode cX12_six 46 = .ok (.iload 4, 2) := by decide +kernel
theorem dX12_six_48 : decode cX12_six 48 = .ok (.iadd, 1) := by decide +kernel
theorem dX12_six_49 : decode cX12_six 49 = .ok (.istore 6, 2) := by decide +kernel
theorem dX12_six_51 : decode cX12_six 51 = .ok (.iload 5, 2) := by decide +kernel
theorem dX12_six_53 : decode cX12_six 53 = .ok (.ifCond .ne 8, 3) := by decide +kernel
theorem dX12_six_56 : decode cX12_six 56 = .ok (.iload 6, 2) := by decide +kernel
theorem dX12_six_58 : decode cX12_six 58 = .ok (.goto 11, 3) := by decide +kernel
theorem dX12_six_61 : decode cX12_six 61 = .ok (.bipush 27, 2) := by decide +kernel
theorem dX12_six_63 : decode cX12_six 63 = .ok (.iload 6, 2) := by decide +kernel
theorem dX12_six_65 : decode cX12_six 65 = .ok (.imul, 1) := by decide +kernel
theorem dX12_six_66 : decode cX12_six 66 = .ok (.iload 5, 2) := by decide +kernel
theorem dX12_six_68 : decode cX12_six 68 = .ok (.iadd, 1) := by decide +kernel
theorem dX12_six_69 : decode cX12_six 69 = .ok (.ireturn, 1) := by decide +kernel
theorem dX12_isWord_0 : decode cX12_isWord 0 = .ok (.aload_n 0, 1) := by decide +kernel
theorem dX12_isWord_1 : decode cX12_isWord 1 = .ok (.getfield 120, 3) := by decide +kernel
theorem dX12_isWord_4 : decode cX12_isWord 4 = .ok (.ifCond .ne 26, 3) := by decide +kernel
theorem dX12_isWord_7 : decode cX12_isWord 7 = .ok (.aload_n 0, 1) := by decide +kernel
theorem dX12_isWord_8 : decode cX12_isWord 8 = .ok (.invokevirtual 145, 3) := by decide +kernel
theorem dX12_isWord_11 : decode cX12_isWord 11 = .ok (.iload_n 1, 1) := by decide +kernel
theorem dX12_isWord_12 : decode cX12_isWord 12 = .ok (.iload_n 2, 1) := by decide +kernel
theorem dX12_isWord_13 : decode cX12_isWord 13 = .ok (.iload_n 3, 1) := by decide +kernel
theorem dX12_isWord_14 : decode cX12_isWord 14 = .ok (.iload 4, 2) := by decide +kernel
theorem dX12_isWord_16 : decode cX12_isWord 16 = .ok (.iload 5, 2) := by decide +kernel
theorem dX12_isWord_18 : decode cX12_isWord 18 = .ok (.iload 6, 2) := by decide +kernel
theorem dX12_isWord_20 : decode cX12_isWord 20 = .ok (.invokestatic 149, 3) := by decide +kernel
theorem dX12_isWord_23 : decode cX12_isWord 23 = .ok (.if_icmp .ne 7, 3) := by decide +kernel
theorem dX12_isWord_26 : decode cX12_isWord 26 = .ok (.iconst 1, 1) := by decide +kernel
theorem dX12_isWord_27 : decode cX12_isWord 27 = .ok (.goto 4, 3) := by decide +kernel
theorem dX12_isWord_30 : decode cX12_isWord 30 = .ok (.iconst 0, 1) := by decide +kernel
theorem dX12_isWord_31 : decode cX12_isWord 31 = .ok (.ireturn, 1) := by decide +kernel
theorem dX12_skipWord_0 : decode cX12_skipWord 0 = .ok (.aload_n 0, 1) := by decide +kernel
theorem dX12_skipWord_1 : decode cX12_skipWord 1 = .ok (.aload_n 0, 1) := by decide +kernel
theorem dX12_skipWord_2 : decode cX12_skipWord 2 = .ok (.getfield 113, 3) := by decide +kernel
theorem dX12_skipWord_5 : decode cX12_skipWord 5 = .ok (.invokevirtual 116, 3) := by decide +kernel
theorem dX12_skipWord_8 : decode cX12_skipWord 8 = .ok (.invokestatic 142, 3) := by decide +kernel
theorem dX12_skipWord_11 : decode cX12_skipWord 11 = .ok (.ifCond .eq 16, 3) := by decide +kernel
theorem dX12_skipWord_14 : decode cX12_skipWord 14 = .ok (.aload_n 0, 1) := by decide +kernel
theorem dX12_skipWord_15 : decode cX12_skipWord 15 = .ok (.dup, 1) := by decide +kernel
theorem dX12_skipWord_16 : decode cX12_skipWord 16 = .ok (.getfield 113, 3) := by decide +kernel
theorem dX12_skipWord_19 : decode cX12_skipWord 19 = .ok (.iconst 1, 1) := by decide +kernel
theorem dX12_skipWord_20 : decode cX12_skipWord 20 = .ok (.iadd, 1) := by decide +kernel
theorem dX12_skipWord_21 : decode cX12_skipWord 21 = .ok (.putfield 113, 3) := by decide +kernel
theorem dX12_skipWord_24 : decode cX12_skipWord 24 = .ok (.goto (-24), 3) := by decide +kernel
theorem dX12_skipWord_27 : decode cX12_skipWord 27 = .ok (.return_, 1) := by decide +kernel
theorem dX12_takes_0 : decode cX12_takes 0 = .ok (.aload_n 0, 1) := by decide +kernel
theorem dX12_takes_1 : decode cX12_takes 1 = .ok (.iload_n 1, 1) := by decide +kernel
theorem dX12_takes_2 : decode cX12_takes 2 = .ok (.iload_n 2, 1) := by decide +kernel
theorem dX12_takes_3 : decode cX12_takes 3 = .ok (.iload_n 3, 1) := by decide +kernel
theorem dX12_takes_4 : decode cX12_takes 4 = .ok (.iload 4, 2) := by decide +kernel
theorem dX12_takes_6 : decode cX12_takes 6 = .ok (.iload 5, 2) := by decide +kernel
theorem dX12_takes_8 : decode cX12_takes 8 = .ok (.iload 6, 2) := by decide +kernel
theorem dX12_takes_10 : decode cX12_takes 10 = .ok (.invokevirtual 153, 3) := by decide +kernel
theorem dX12_takes_13 : decode cX12_takes 13 = .ok (.istore 7, 2) := by decide +kernel
theorem dX12_takes_15 : decode cX12_takes 15 = .ok (.iload 7, 2) := by decide +kernel
theorem dX12_takes_17 : decode cX12_takes 17 = .ok (.ifCond .eq 7, 3) := by decide +kernel
theorem dX12_takes_20 : decode cX12_takes 20 = .ok (.aload_n 0, 1) := by decide +kernel
theorem dX12_takes_21 : decode cX12_takes 21 = .ok (.invokevirtual 157, 3) := by decide +kernel
theorem dX12_takes_24 : decode cX12_takes 24 = .ok (.iload 7, 2) := by decide +kernel
theorem dX12_takes_26 : decode cX12_takes 26 = .ok (.ireturn, 1) := by decide +kernel
theorem dX12_sign_0 : decode cX12_sign 0 = .ok (.aload_n 0, 1) := by decide +kernel
theorem dX12_sign_1 : decode cX12_sign 1 = .ok (.getfield 120, 3) := by decide +kernel
theorem dX12_sign_4 : decode cX12_sign 4 = .ok (.ifCond .eq 4, 3) := by decide +kernel
theorem dX12_sign_7 : decode cX12_sign 7 = .ok (.return_, 1) := by decide +kernel
theorem dX12_sign_8 : decode cX12_sign 8 = .ok (.aload_n 0, 1) := by decide +kernel
theorem dX12_sign_9 : decode cX12_sign 9 = .ok (.invokevirtual 126, 3) := by decide +kernel
theorem dX12_sign_12 : decode cX12_sign 12 = .ok (.aload_n 0, 1) := by decide +kernel
theorem dX12_sign_13 : decode cX12_sign 13 = .ok (.aload_n 0, 1) := by decide +kernel
theorem dX12_sign_14 : decode cX12_sign 14 = .ok (.getfield 113, 3) := by decide +kernel
theorem dX12_sign_17 : decode cX12_sign 17 = .ok (.invokevirtual 116, 3) := by decide +kernel
theorem dX12_sign_20 : decode cX12_sign 20 = .ok (.iload_n 1, 1) := by decide +kernel
theorem dX12_sign_21 : decode cX12_sign 21 = .ok (.if_icmp .ne 16, 3) := by decide +kernel
theorem dX12_sign_24 : decode cX12_sign 24 = .ok (.aload_n 0, 1) := by decide +kernel
theorem dX12_sign_25 : decode cX12_sign 25 = .ok (.dup, 1) := by decide +kernel
theorem dX12_sign_26 : decode cX12_sign 26 = .ok (.getfield 113, 3) := by decide +kernel
theorem dX12_sign_29 : decode cX12_sign 29 = .ok (.iconst 1, 1) := by decide +kernel
theorem dX12_sign_30 : decode cX12_sign 30 = .ok (.iadd, 1) := by decide +kernel
theorem dX12_sign_31 : decode cX12_sign 31 = .ok (.putfield 113, 3) := by decide +kernel
theorem dX12_sign_34 : decode cX12_sign 34 = .ok (.goto 12, 3) := by decide +kernel
theorem dX12_sign_37 : decode cX12_sign 37 = .ok (.aload_n 0, 1) := by decide +kernel
theorem dX12_sign_38 : decode cX12_sign 38 = .ok (.iconst 1, 1) := by decide +kernel
theorem dX12_sign_39 : decode cX12_sign 39 = .ok (.aload_n 0, 1) := by decide +kernel
theorem dX12_sign_40 : decode cX12_sign 40 = .ok (.getfield 113, 3) := by decide +kernel
theorem dX12_sign_43 : decode cX12_sign 43 = .ok (.invokevirtual 133, 3) := by decide +kernel
theorem dX12_sign_46 : decode cX12_sign 46 = .ok (.return_, 1) := by decide +kernel
theorem dX12_takesSign_0 : decode cX12_takesSign 0 = .ok (.aload_n 0, 1) := by decide +kernel
theorem dX12_takesSign_1 : decode cX12_takesSign 1 = .ok (.getfield 120, 3) := by decide +kernel
theorem dX12_takesSign_4 : decode cX12_takesSign 4 = .ok (.ifCond .eq 5, 3) := by decide +kernel
theorem dX12_takesSign_7 : decode cX12_takesSign 7 = .ok (.iconst 0, 1) := by decide +kernel
theorem dX12_takesSign_8 : decode cX12_takesSign 8 = .ok (.ireturn, 1) := by decide +kernel
theorem dX12_takesSign_9 : decode cX12_takesSign 9 = .ok (.aload_n 0, 1) := by decide +kernel
theorem dX12_takesSign_10 : decode cX12_takesSign 10 = .ok (.invokevirtual 126, 3) := by decide +kernel
theorem dX12_takesSign_13 : decode cX12_takesSign 13 = .ok (.aload_n 0, 1) := by decide +kernel
theorem dX12_takesSign_14 : decode cX12_takesSign 14 = .ok (.aload_n 0, 1) := by decide +kernel
theorem dX12_takesSign_15 : decode cX12_takesSign 15 = .ok (.getfield 113, 3) := by decide +kernel
theorem dX12_takesSign_18 : decode cX12_takesSign 18 = .ok (.invokevirtual 116, 3) := by decide +kernel
theorem dX12_takesSign_21 : decode cX12_takesSign 21 = .ok (.iload_n 1, 1) := by decide +kernel
theorem dX12_takesSign_22 : decode cX12_takesSign 22 = .ok (.if_icmp .ne 7, 3) := by decide +kernel
theorem dX12_takesSign_25 : decode cX12_takesSign 25 = .ok (.iconst 1, 1) := by decide +kernel
theorem dX12_takesSign_26 : decode cX12_takesSign 26 = .ok (.goto 4, 3) := by decide +kernel
theorem dX12_takesSign_29 : decode cX12_takesSign 29 = .ok (.iconst 0, 1) := by decide +kernel
theorem dX12_takesSign_30 : decode cX12_takesSign 30 = .ok (.istore_n 2, 1) := by decide +kernel
theorem dX12_takesSign_31 : decode cX12_takesSign 31 = .ok (.iload_n 2, 1) := by decide +kernel
theorem dX12_takesSign_32 : decode cX12_takesSign 32 = .ok (.ifCond .eq 13, 3) := by decide +kernel
theorem dX12_takesSign_35 : decode cX12_takesSign 35 = .ok (.aload_n 0, 1) := by decide +kernel
theorem dX12_takesSign_36 : decode cX12_takesSign 36 = .ok (.dup, 1) := by decide +kernel
theorem dX12_takesSign_37 : decode cX12_takesSign 37 = .ok (.getfield 113, 3) := by decide +kernel
theorem dX12_takesSign_40 : decode cX12_takesSign 40 = .ok (.iconst 1, 1) := by decide +kernel
theorem dX12_takesSign_41 : decode cX12_takesSign 41 = .ok (.iadd, 1) := by decide +kernel
theorem dX12_takesSign_42 : decode cX12_takesSign 42 = .ok (.putfield 113, 3) := by decide +kernel
theorem dX12_takesSign_45 : decode cX12_takesSign 45 = .ok (.iload_n 2, 1) := by decide +kernel
theorem dX12_takesSign_46 : decode cX12_takesSign 46 = .ok (.ireturn, 1) := by decide +kernel
theorem dX12_starts_0 : decode cX12_starts 0 = .ok (.aload_n 0, 1) := by decide +kernel
theorem dX12_starts_1 : decode cX12_starts 1 = .ok (.iconst 0, 1) := by decide +kernel
theorem dX12_starts_2 : decode cX12_starts 2 = .ok (.putfield 107, 3) := by decide +kernel
theorem dX12_starts_5 : decode cX12_starts 5 = .ok (.aload_n 0, 1) := by decide +kernel
theorem dX12_starts_6 : decode cX12_starts 6 = .ok (.iload_n 1, 1) := by decide +kernel
theorem dX12_starts_7 : decode cX12_starts 7 = .ok (.putfield 110, 3) := by decide +kernel
theorem dX12_starts_10 : decode cX12_starts 10 = .ok (.aload_n 0, 1) := by decide +kernel
theorem dX12_starts_11 : decode cX12_starts 11 = .ok (.iconst 0, 1) := by decide +kernel
theorem dX12_starts_12 : decode cX12_starts 12 = .ok (.putfield 113, 3) := by decide +kernel
theorem dX12_starts_15 : decode cX12_starts 15 = .ok (.aload_n 0, 1) := by decide +kernel
theorem dX12_starts_16 : decode cX12_starts 16 = .ok (.iconst 0, 1) := by decide +kernel
theorem dX12_starts_17 : decode cX12_starts 17 = .ok (.putfield 120, 3) := by decide +kernel
theorem dX12_starts_20 : decode cX12_starts 20 = .ok (.aload_n 0, 1) := by decide +kernel
theorem dX12_starts_21 : decode cX12_starts 21 = .ok (.iconst (-1), 1) := by decide +kernel
theorem dX12_starts_22 : decode cX12_starts 22 = .ok (.putfield 123, 3) := by decide +kernel
theorem dX12_starts_25 : decode cX12_starts 25 = .ok (.aload_n 0, 1) := by decide +kernel
theorem dX12_starts_26 : decode cX12_starts 26 = .ok (.iconst 0, 1) := by decide +kernel
theorem dX12_starts_27 : decode cX12_starts 27 = .ok (.putfield 160, 3) := by decide +kernel
theorem dX12_starts_30 : decode cX12_starts 30 = .ok (.aload_n 0, 1) := by decide +kernel
theorem dX12_starts_31 : decode cX12_starts 31 = .ok (.iconst 0, 1) := by decide +kernel
theorem dX12_starts_32 : decode cX12_starts 32 = .ok (.putfield 163, 3) := by decide +kernel
theorem dX12_starts_35 : decode cX12_starts 35 = .ok (.aload_n 0, 1) := by decide +kernel
theorem dX12_starts_36 : decode cX12_starts 36 = .ok (.invokevirtual 126, 3) := by decide +kernel
theorem dX12_starts_39 : decode cX12_starts 39 = .ok (.return_, 1) := by decide +kernel
theorem dX12_ends_0 : decode cX12_ends 0 = .ok (.aload_n 0, 1) := by decide +kernel
theorem dX12_ends_1 : decode cX12_ends 1 = .ok (.aload_n 0, 1) := by decide +kernel
theorem dX12_ends_2 : decode cX12_ends 2 = .ok (.getfield 123, 3) := by decide +kernel
theorem dX12_ends_5 : decode cX12_ends 5 = .ok (.putfield 9, 3) := by decide +kernel
theorem dX12_ends_8 : decode cX12_ends 8 = .ok (.aload_n 0, 1) := by decide +kernel
theorem dX12_ends_9 : decode cX12_ends 9 = .ok (.getfield 120, 3) := by decide +kernel
theorem dX12_ends_12 : decode cX12_ends 12 = .ok (.bipush 10, 2) := by decide +kernel
theorem dX12_ends_14 : decode cX12_ends 14 = .ok (.isub, 1) := by decide +kernel
theorem dX12_ends_15 : decode cX12_ends 15 = .ok (.ireturn, 1) := by decide +kernel
theorem dX12_kindHere_0 : decode cX12_kindHere 0 = .ok (.aload_n 0, 1) := by decide +kernel
theorem dX12_kindHere_1 : decode cX12_kindHere 1 = .ok (.bipush 6, 2) := by decide +kernel
theorem dX12_kindHere_3 : decode cX12_kindHere 3 = .ok (.bipush 15, 2) := by decide +kernel
theorem dX12_kindHere_5 : decode cX12_kindHere 5 = .ok (.bipush 12, 2) := by decide +kernel
theorem dX12_kindHere_7 : decode cX12_kindHere 7 = .ok (.bipush 11, 2) := by decide +kernel
theorem dX12_kindHere_9 : decode cX12_kindHere 9 = .ok (.iconst 0, 1) := by decide +kernel
theorem dX12_kindHere_10 : decode cX12_kindHere 10 = .ok (.iconst 0, 1) := by decide +kernel
theorem dX12_kindHere_11 : decode cX12_kindHere 11 = .ok (.invokevirtual 153, 3) := by decide +kernel
theorem dX12_kindHere_14 : decode cX12_kindHere 14 = .ok (.ifCond .eq 5, 3) := by decide +kernel
theorem dX12_kindHere_17 : decode cX12_kindHere 17 = .ok (.iconst 0, 1) := by decide +kernel
theorem dX12_kindHere_18 : decode cX12_kindHere 18 = .ok (.ireturn, 1) := by decide +kernel
theorem dX12_kindHere_19 : decode cX12_kindHere 19 = .ok (.aload_n 0, 1) := by decide +kernel
theorem dX12_kindHere_20 : decode cX12_kindHere 20 = .ok (.iconst 2, 1) := by decide +kernel
theorem dX12_kindHere_21 : decode cX12_kindHere 21 = .ok (.iconst 5, 1) := by decide +kernel
theorem dX12_kindHere_22 : decode cX12_kindHere 22 = .ok (.iconst 1, 1) := by decide +kernel
theorem dX12_kindHere_23 : decode cX12_kindHere 23 = .ok (.bipush 19, 2) := by decide +kernel
theorem dX12_kindHere_25 : decode cX12_kindHere 25 = .ok (.bipush 20, 2) := by decide +kernel
theorem dX12_kindHere_27 : decode cX12_kindHere 27 = .ok (.iconst 0, 1) := by decide +kernel
theorem dX12_kindHere_28 : decode cX12_kindHere 28 = .ok (.invokevirtual 153, 3) := by decide +kernel
theorem dX12_kindHere_31 : decode cX12_kindHere 31 = .ok (.ifCond .eq 5, 3) := by decide +kernel
theorem dX12_kindHere_34 : decode cX12_kindHere 34 = .ok (.iconst 1, 1) := by decide +kernel
theorem dX12_kindHere_35 : decode cX12_kindHere 35 = .ok (.ireturn, 1) := by decide +kernel
theorem dX12_kindHere_36 : decode cX12_kindHere 36 = .ok (.aload_n 0, 1) := by decide +kernel
theorem dX12_kindHere_37 : decode cX12_kindHere 37 = .ok (.bipush 6, 2) := by decide +kernel
theorem dX12_kindHere_39 : decode cX12_kindHere 39 = .ok (.iconst 1, 1) := by decide +kernel
theorem dX12_kindHere_40 : decode cX12_kindHere 40 = .ok (.bipush 9, 2) := by decide +kernel
theorem dX12_kindHere_42 : decode cX12_kindHere 42 = .ok (.bipush 18, 2) := by decide +kernel
theorem dX12_kindHere_44 : decode cX12_kindHere 44 = .ok (.iconst 0, 1) := by decide +kernel
theorem dX12_kindHere_45 : decode cX12_kindHere 45 = .ok (.iconst 0, 1) := by decide +kernel
theorem dX12_kindHere_46 : decode cX12_kindHere 46 = .ok (.invokevirtual 153, 3) := by decide +kernel
theorem dX12_kindHere_49 : decode cX12_kindHere 49 = .ok (.ifCond .eq 7, 3) := by decide +kernel
theorem dX12_kindHere_52 : decode cX12_kindHere 52 = .ok (.iconst 2, 1) := by decide +kernel
theorem dX12_kindHere_53 : decode cX12_kindHere 53 = .ok (.goto 4, 3) := by decide +kernel
theorem dX12_kindHere_56 : decode cX12_kindHere 56 = .ok (.iconst (-1), 1) := by decide +kernel
theorem dX12_kindHere_57 : decode cX12_kindHere 57 = .ok (.ireturn, 1) := by decide +kernel
theorem dX12_mostOf_0 : decode cX12_mostOf 0 = .ok (.iload_n 0, 1) := by decide +kernel
theorem dX12_mostOf_1 : decode cX12_mostOf 1 = .ok (.ifCond .ne 8, 3) := by decide +kernel
theorem dX12_mostOf_4 : decode cX12_mostOf 4 = .ok (.bipush 6, 2) := by decide +kernel
theorem dX12_mostOf_6 : decode cX12_mostOf 6 = .ok (.goto 15, 3) := by decide +kernel
theorem dX12_mostOf_9 : decode cX12_mostOf 9 = .ok (.iload_n 0, 1) := by decide +kernel
theorem dX12_mostOf_10 : decode cX12_mostOf 10 = .ok (.iconst 1, 1) := by decide +kernel
theorem dX12_mostOf_11 : decode cX12_mostOf 11 = .ok (.if_icmp .ne 8, 3) := by decide +kernel
theorem dX12_mostOf_14 : decode cX12_mostOf 14 = .ok (.bipush 12, 2) := by decide +kernel
theorem dX12_mostOf_16 : decode cX12_mostOf 16 = .ok (.goto 5, 3) := by decide +kernel
theorem dX12_mostOf_19 : decode cX12_mostOf 19 = .ok (.bipush 10, 2) := by decide +kernel
theorem dX12_mostOf_21 : decode cX12_mostOf 21 = .ok (.ireturn, 1) := by decide +kernel
theorem dX12_another_0 : decode cX12_another 0 = .ok (.aload_n 0, 1) := by decide +kernel
theorem dX12_another_1 : decode cX12_another 1 = .ok (.invokevirtual 126, 3) := by decide +kernel
theorem dX12_another_4 : decode cX12_another 4 = .ok (.aload_n 0, 1) := by decide +kernel
theorem dX12_another_5 : decode cX12_another 5 = .ok (.getfield 113, 3) := by decide +kernel
theorem dX12_another_8 : decode cX12_another 8 = .ok (.istore_n 3, 1) := by decide +kernel
theorem dX12_another_9 : decode cX12_another 9 = .ok (.aload_n 0, 1) := by decide +kernel
theorem dX12_another_10 : decode cX12_another 10 = .ok (.iconst 0, 1) := by decide +kernel
theorem dX12_another_11 : decode cX12_another 11 = .ok (.iload_n 2, 1) := by decide +kernel
theorem dX12_another_12 : decode cX12_another 12 = .ok (.iconst 1, 1) := by decide +kernel
theorem dX12_another_13 : decode cX12_another 13 = .ok (.isub, 1) := by decide +kernel
theorem dX12_another_14 : decode cX12_another 14 = .ok (.invokevirtual 166, 3) := by decide +kernel
theorem dX12_another_17 : decode cX12_another 17 = .ok (.istore 4, 2) := by decide +kernel
theorem dX12_another_19 : decode cX12_another 19 = .ok (.aload_n 0, 1) := by decide +kernel
theorem dX12_another_20 : decode cX12_another 20 = .ok (.getfield 120, 3) := by decide +kernel
theorem dX12_another_23 : decode cX12_another 23 = .ok (.ifCond .ne 15, 3) := by decide +kernel
theorem dX12_another_26 : decode cX12_another 26 = .ok (.iload_n 1, 1) := by decide +kernel
theorem dX12_another_27 : decode cX12_another 27 = .ok (.iload 4, 2) := by decide +kernel
theorem dX12_another_29 : decode cX12_another 29 = .ok (.if_icmp .ne 9, 3) := by decide +kernel
theorem dX12_another_32 : decode cX12_another 32 = .ok (.aload_n 0, 1) := by decide +kernel
theorem dX12_another_33 : decode cX12_another 33 = .ok (.iconst 2, 1) := by decide +kernel
theorem dX12_another_34 : decode cX12_another 34 = .ok (.iload_n 3, 1) := by decide +kernel
theorem dX12_another_35 : decode cX12_another 35 = .ok (.invokevirtual 133, 3) := by decide +kernel
theorem dX12_another_38 : decode cX12_another 38 = .ok (.iload 4, 2) := by decide +kernel
theorem dX12_another_40 : decode cX12_another 40 = .ok (.ireturn, 1) := by decide +kernel
theorem dX12_clause_0 : decode cX12_clause 0 = .ok (.aload_n 0, 1) := by decide +kernel
theorem dX12_clause_1 : decode cX12_clause 1 = .ok (.invokevirtual 170, 3) := by decide +kernel
theorem dX12_clause_4 : decode cX12_clause 4 = .ok (.istore_n 1, 1) := by decide +kernel
theorem dX12_clause_5 : decode cX12_clause 5 = .ok (.iload_n 1, 1) := by decide +kernel
theorem dX12_clause_6 : decode cX12_clause 6 = .ok (.iconst (-1), 1) := by decide +kernel
theorem dX12_clause_7 : decode cX12_clause 7 = .ok (.if_icmp .ne 15, 3) := by decide +kernel
theorem dX12_clause_10 : decode cX12_clause 10 = .ok (.aload_n 0, 1) := by decide +kernel
theorem dX12_clause_11 : decode cX12_clause 11 = .ok (.iconst 1, 1) := by decide +kernel
theorem dX12_clause_12 : decode cX12_clause 12 = .ok (.aload_n 0, 1) := by decide +kernel
theorem dX12_clause_13 : decode cX12_clause 13 = .ok (.getfield 113, 3) := by decide +kernel
theorem dX12_clause_16 : decode cX12_clause 16 = .ok (.invokevirtual 133, 3) := by decide +kernel
theorem dX12_clause_19 : decode cX12_clause 19 = .ok (.goto 34, 3) := by decide +kernel
theorem dX12_clause_22 : decode cX12_clause 22 = .ok (.aload_n 0, 1) := by decide +kernel
theorem dX12_clause_23 : decode cX12_clause 23 = .ok (.getfield 160, 3) := by decide +kernel
theorem dX12_clause_26 : decode cX12_clause 26 = .ok (.bipush 60, 2) := by decide +kernel
theorem dX12_clause_28 : decode cX12_clause 28 = .ok (.if_icmp .eq 16, 3) := by decide +kernel
theorem dX12_clause_31 : decode cX12_clause 31 = .ok (.aload_n 0, 1) := by decide +kernel
theorem dX12_clause_32 : decode cX12_clause 32 = .ok (.getfield 20, 3) := by decide +kernel
theorem dX12_clause_35 : decode cX12_clause 35 = .ok (.iload_n 1, 1) := by decide +kernel
theorem dX12_clause_36 : decode cX12_clause 36 = .ok (.iaload, 1) := by decide +kernel
theorem dX12_clause_37 : decode cX12_clause 37 = .ok (.iload_n 1, 1) := by decide +kernel
theorem dX12_clause_38 : decode cX12_clause 38 = .ok (.invokestatic 173, 3) := by decide +kernel
theorem dX12_clause_41 : decode cX12_clause 41 = .ok (.if_icmp .ne 12, 3) := by decide +kernel
theorem dX12_clause_44 : decode cX12_clause 44 = .ok (.aload_n 0, 1) := by decide +kernel
theorem dX12_clause_45 : decode cX12_clause 45 = .ok (.iconst 3, 1) := by decide +kernel
theorem dX12_clause_46 : decode cX12_clause 46 = .ok (.aload_n 0, 1) := by decide +kernel
theorem dX12_clause_47 : decode cX12_clause 47 = .ok (.getfield 113, 3) := by decide +kernel
theorem dX12_clause_50 : decode cX12_clause 50 = .ok (.invokevirtual 133, 3) := by decide +kernel
theorem dX12_clause_53 : decode cX12_clause 53 = .ok (.aload_n 0, 1) := by decide +kernel
theorem dX12_clause_54 : decode cX12_clause 54 = .ok (.getfield 120, 3) := by decide +kernel
theorem dX12_clause_57 : decode cX12_clause 57 = .ok (.ifCond .eq 4, 3) := by decide +kernel
theorem dX12_clause_60 : decode cX12_clause 60 = .ok (.return_, 1) := by decide +kernel
theorem dX12_clause_61 : decode cX12_clause 61 = .ok (.aload_n 0, 1) := by decide +kernel
theorem dX12_clause_62 : decode cX12_clause 62 = .ok (.invokevirtual 157, 3) := by decide +kernel
theorem dX12_clause_65 : decode cX12_clause 65 = .ok (.aload_n 0, 1) := by decide +kernel
theorem dX12_clause_66 : decode cX12_clause 66 = .ok (.dup, 1) := by decide +kernel
theorem dX12_clause_67 : decode cX12_clause 67 = .ok (.getfield 160, 3) := by decide +kernel
theorem dX12_clause_70 : decode cX12_clause 70 = .ok (.iconst 1, 1) := by decide +kernel
theorem dX12_clause_71 : decode cX12_clause 71 = .ok (.iadd, 1) := by decide +kernel
theorem dX12_clause_72 : decode cX12_clause 72 = .ok (.putfield 160, 3) := by decide +kernel
theorem dX12_clause_75 : decode cX12_clause 75 = .ok (.aload_n 0, 1) := by decide +kernel
theorem dX12_clause_76 : decode cX12_clause 76 = .ok (.getfield 20, 3) := by decide +kernel
theorem dX12_clause_79 : decode cX12_clause 79 = .ok (.iload_n 1, 1) := by decide +kernel
theorem dX12_clause_80 : decode cX12_clause 80 = .ok (.iaload, 1) := by decide +kernel
theorem dX12_clause_81 : decode cX12_clause 81 = .ok (.istore_n 2, 1) := by decide +kernel
theorem dX12_clause_82 : decode cX12_clause 82 = .ok (.iload_n 1, 1) := by decide +kernel
theorem dX12_clause_83 : decode cX12_clause 83 = .ok (.lookupswitch 137 #[(0, 25), (1, 58)], 25) := by decide +kernel
theorem dX12_clause_108 : decode cX12_clause 108 = .ok (.aload_n 0, 1) := by decide +kernel
theorem dX12_clause_109 : decode cX12_clause 109 = .ok (.getfield 28, 3) := by decide +kernel
theorem dX12_clause_112 : decode cX12_clause 112 = .ok (.iload_n 2, 1) := by decide +kernel
theorem dX12_clause_113 : decode cX12_clause 113 = .ok (.aaload, 1) := by decide +kernel
theorem dX12_clause_114 : decode cX12_clause 114 = .ok (.iconst 0, 1) := by decide +kernel
theorem dX12_clause_115 : decode cX12_clause 115 = .ok (.aload_n 0, 1) := by decide +kernel
theorem dX12_clause_116 : decode cX12_clause 116 = .ok (.iconst 0, 1) := by decide +kernel
theorem dX12_clause_117 : decode cX12_clause 117 = .ok (.bipush 99, 2) := by decide +kernel
theorem dX12_clause_119 : decode cX12_clause 119 = .ok (.invokevirtual 166, 3) := by decide +kernel
theorem dX12_clause_122 : decode cX12_clause 122 = .ok (.iastore, 1) := by decide +kernel
theorem dX12_clause_123 : decode cX12_clause 123 = .ok (.aload_n 0, 1) := by decide +kernel
theorem dX12_clause_124 : decode cX12_clause 124 = .ok (.getfield 28, 3) := by decide +kernel
theorem dX12_clause_127 : decode cX12_clause 127 = .ok (.iload_n 2, 1) := by decide +kernel
theorem dX12_clause_128 : decode cX12_clause 128 = .ok (.aaload, 1) := by decide +kernel
theorem dX12_clause_129 : decode cX12_clause 129 = .ok (.iconst 1, 1) := by decide +kernel
theorem dX12_clause_130 : decode cX12_clause 130 = .ok (.aload_n 0, 1) := by decide +kernel
theorem dX12_clause_131 : decode cX12_clause 131 = .ok (.iconst 0, 1) := by decide +kernel
theorem dX12_clause_132 : decode cX12_clause 132 = .ok (.bipush 9, 2) := by decide +kernel
theorem dX12_clause_134 : decode cX12_clause 134 = .ok (.invokevirtual 166, 3) := by decide +kernel
theorem dX12_clause_137 : decode cX12_clause 137 = .ok (.iastore, 1) := by decide +kernel
theorem dX12_clause_138 : decode cX12_clause 138 = .ok (.goto 133, 3) := by decide +kernel
theorem dX12_clause_141 : decode cX12_clause 141 = .ok (.aload_n 0, 1) := by decide +kernel
theorem dX12_clause_142 : decode cX12_clause 142 = .ok (.getfield 34, 3) := by decide +kernel
theorem dX12_clause_145 : decode cX12_clause 145 = .ok (.iload_n 2, 1) := by decide +kernel
theorem dX12_clause_146 : decode cX12_clause 146 = .ok (.aaload, 1) := by decide +kernel
theorem dX12_clause_147 : decode cX12_clause 147 = .ok (.iconst 0, 1) := by decide +kernel
theorem dX12_clause_148 : decode cX12_clause 148 = .ok (.aload_n 0, 1) := by decide +kernel
theorem dX12_clause_149 : decode cX12_clause 149 = .ok (.iconst 0, 1) := by decide +kernel
theorem dX12_clause_150 : decode cX12_clause 150 = .ok (.aload_n 0, 1) := by decide +kernel
theorem dX12_clause_151 : decode cX12_clause 151 = .ok (.getfield 20, 3) := by decide +kernel
theorem dX12_clause_154 : decode cX12_clause 154 = .ok (.iconst 0, 1) := by decide +kernel
theorem dX12_clause_155 : decode cX12_clause 155 = .ok (.iaload, 1) := by decide +kernel
theorem dX12_clause_156 : decode cX12_clause 156 = .ok (.iconst 1, 1) := by decide +kernel
theorem dX12_clause_157 : decode cX12_clause 157 = .ok (.isub, 1) := by decide +kernel
theorem dX12_clause_158 : decode cX12_clause 158 = .ok (.invokevirtual 166, 3) := by decide +kernel
theorem dX12_clause_161 : decode cX12_clause 161 = .ok (.iastore, 1) := by decide +kernel
theorem dX12_clause_162 : decode cX12_clause 162 = .ok (.aload_n 0, 1) := by decide +kernel
theorem dX12_clause_163 : decode cX12_clause 163 = .ok (.getfield 34, 3) := by decide +kernel
theorem dX12_clause_166 : decode cX12_clause 166 = .ok (.iload_n 2, 1) := by decide +kernel
theorem dX12_clause_167 : decode cX12_clause 167 = .ok (.aaload, 1) := by decide +kernel
theorem dX12_clause_168 : decode cX12_clause 168 = .ok (.iconst 1, 1) := by decide +kernel
theorem dX12_clause_169 : decode cX12_clause 169 = .ok (.aload_n 0, 1) := by decide +kernel
theorem dX12_clause_170 : decode cX12_clause 170 = .ok (.aload_n 0, 1) := by decide +kernel
theorem dX12_clause_171 : decode cX12_clause 171 = .ok (.getfield 34, 3) := by decide +kernel
theorem dX12_clause_174 : decode cX12_clause 174 = .ok (.iload_n 2, 1) := by decide +kernel
theorem dX12_clause_175 : decode cX12_clause 175 = .ok (.aaload, 1) := by decide +kernel
theorem dX12_clause_176 : decode cX12_clause 176 = .ok (.iconst 0, 1) := by decide +kernel
theorem dX12_clause_177 : decode cX12_clause 177 = .ok (.iaload, 1) := by decide +kernel
theorem dX12_clause_178 : decode cX12_clause 178 = .ok (.aload_n 0, 1) := by decide +kernel
theorem dX12_clause_179 : decode cX12_clause 179 = .ok (.getfield 20, 3) := by decide +kernel
theorem dX12_clause_182 : decode cX12_clause 182 = .ok (.iconst 0, 1) := by decide +kernel
theorem dX12_clause_183 : decode cX12_clause 183 = .ok (.iaload, 1) := by decide +kernel
theorem dX12_clause_184 : decode cX12_clause 184 = .ok (.invokevirtual 176, 3) := by decide +kernel
theorem dX12_clause_187 : decode cX12_clause 187 = .ok (.iastore, 1) := by decide +kernel
theorem dX12_clause_188 : decode cX12_clause 188 = .ok (.aload_n 0, 1) := by decide +kernel
theorem dX12_clause_189 : decode cX12_clause 189 = .ok (.getfield 34, 3) := by decide +kernel
theorem dX12_clause_192 : decode cX12_clause 192 = .ok (.iload_n 2, 1) := by decide +kernel
theorem dX12_clause_193 : decode cX12_clause 193 = .ok (.aaload, 1) := by decide +kernel
theorem dX12_clause_194 : decode cX12_clause 194 = .ok (.iconst 2, 1) := by decide +kernel
theorem dX12_clause_195 : decode cX12_clause 195 = .ok (.aload_n 0, 1) := by decide +kernel
theorem dX12_clause_196 : decode cX12_clause 196 = .ok (.iconst 0, 1) := by decide +kernel
theorem dX12_clause_197 : decode cX12_clause 197 = .ok (.iconst 5, 1) := by decide +kernel
theorem dX12_clause_198 : decode cX12_clause 198 = .ok (.invokevirtual 166, 3) := by decide +kernel
theorem dX12_clause_201 : decode cX12_clause 201 = .ok (.iastore, 1) := by decide +kernel
theorem dX12_clause_202 : decode cX12_clause 202 = .ok (.aload_n 0, 1) := by decide +kernel
theorem dX12_clause_203 : decode cX12_clause 203 = .ok (.getfield 34, 3) := by decide +kernel
theorem dX12_clause_206 : decode cX12_clause 206 = .ok (.iload_n 2, 1) := by decide +kernel
theorem dX12_clause_207 : decode cX12_clause 207 = .ok (.aaload, 1) := by decide +kernel
theorem dX12_clause_208 : decode cX12_clause 208 = .ok (.iconst 3, 1) := by decide +kernel
theorem dX12_clause_209 : decode cX12_clause 209 = .ok (.aload_n 0, 1) := by decide +kernel
theorem dX12_clause_210 : decode cX12_clause 210 = .ok (.iconst 1, 1) := by decide +kernel
theorem dX12_clause_211 : decode cX12_clause 211 = .ok (.bipush 30, 2) := by decide +kernel
theorem dX12_clause_213 : decode cX12_clause 213 = .ok (.invokevirtual 166, 3) := by decide +kernel
theorem dX12_clause_216 : decode cX12_clause 216 = .ok (.iastore, 1) := by decide +kernel
theorem dX12_clause_217 : decode cX12_clause 217 = .ok (.goto 54, 3) := by decide +kernel
theorem dX12_clause_220 : decode cX12_clause 220 = .ok (.aload_n 0, 1) := by decide +kernel
theorem dX12_clause_221 : decode cX12_clause 221 = .ok (.getfield 40, 3) := by decide +kernel
theorem dX12_clause_224 : decode cX12_clause 224 = .ok (.iload_n 2, 1) := by decide +kernel
theorem dX12_clause_225 : decode cX12_clause 225 = .ok (.aaload, 1) := by decide +kernel
theorem dX12_clause_226 : decode cX12_clause 226 = .ok (.iconst 0, 1) := by decide +kernel
theorem dX12_clause_227 : decode cX12_clause 227 = .ok (.aload_n 0, 1) := by decide +kernel
theorem dX12_clause_228 : decode cX12_clause 228 = .ok (.iconst 0, 1) := by decide +kernel
theorem dX12_clause_229 : decode cX12_clause 229 = .ok (.iconst 5, 1) := by decide +kernel
theorem dX12_clause_230 : decode cX12_clause 230 = .ok (.invokevirtual 166, 3) := by decide +kernel
theorem dX12_clause_233 : decode cX12_clause 233 = .ok (.iastore, 1) := by decide +kernel
theorem dX12_clause_234 : decode cX12_clause 234 = .ok (.aload_n 0, 1) := by decide +kernel
theorem dX12_clause_235 : decode cX12_clause 235 = .ok (.getfield 40, 3) := by decide +kernel
theorem dX12_clause_238 : decode cX12_clause 238 = .ok (.iload_n 2, 1) := by decide +kernel
theorem dX12_clause_239 : decode cX12_clause 239 = .ok (.aaload, 1) := by decide +kernel
theorem dX12_clause_240 : decode cX12_clause 240 = .ok (.iconst 1, 1) := by decide +kernel
theorem dX12_clause_241 : decode cX12_clause 241 = .ok (.aload_n 0, 1) := by decide +kernel
theorem dX12_clause_242 : decode cX12_clause 242 = .ok (.aload_n 0, 1) := by decide +kernel
theorem dX12_clause_243 : decode cX12_clause 243 = .ok (.getfield 40, 3) := by decide +kernel
theorem dX12_clause_246 : decode cX12_clause 246 = .ok (.iload_n 2, 1) := by decide +kernel
theorem dX12_clause_247 : decode cX12_clause 247 = .ok (.aaload, 1) := by decide +kernel
theorem dX12_clause_248 : decode cX12_clause 248 = .ok (.iconst 0, 1) := by decide +kernel
theorem dX12_clause_249 : decode cX12_clause 249 = .ok (.iaload, 1) := by decide +kernel
theorem dX12_clause_250 : decode cX12_clause 250 = .ok (.bipush 6, 2) := by decide +kernel
theorem dX12_clause_252 : decode cX12_clause 252 = .ok (.invokevirtual 176, 3) := by decide +kernel
theorem dX12_clause_255 : decode cX12_clause 255 = .ok (.iastore, 1) := by decide +kernel
theorem dX12_clause_256 : decode cX12_clause 256 = .ok (.aload_n 0, 1) := by decide +kernel
theorem dX12_clause_257 : decode cX12_clause 257 = .ok (.getfield 40, 3) := by decide +kernel
theorem dX12_clause_260 : decode cX12_clause 260 = .ok (.iload_n 2, 1) := by decide +kernel
theorem dX12_clause_261 : decode cX12_clause 261 = .ok (.aaload, 1) := by decide +kernel
theorem dX12_clause_262 : decode cX12_clause 262 = .ok (.iconst 2, 1) := by decide +kernel
theorem dX12_clause_263 : decode cX12_clause 263 = .ok (.aload_n 0, 1) := by decide +kernel
theorem dX12_clause_264 : decode cX12_clause 264 = .ok (.iconst 1, 1) := by decide +kernel
theorem dX12_clause_265 : decode cX12_clause 265 = .ok (.bipush 9, 2) := by decide +kernel
theorem dX12_clause_267 : decode cX12_clause 267 = .ok (.invokevirtual 166, 3) := by decide +kernel
theorem dX12_clause_270 : decode cX12_clause 270 = .ok (.iastore, 1) := by decide +kernel
theorem dX12_clause_271 : decode cX12_clause 271 = .ok (.aload_n 0, 1) := by decide +kernel
theorem dX12_clause_272 : decode cX12_clause 272 = .ok (.bipush 59, 2) := by decide +kernel
theorem dX12_clause_274 : decode cX12_clause 274 = .ok (.invokevirtual 179, 3) := by decide +kernel
theorem dX12_clause_277 : decode cX12_clause 277 = .ok (.aload_n 0, 1) := by decide +kernel
theorem dX12_clause_278 : decode cX12_clause 278 = .ok (.getfield 20, 3) := by decide +kernel
theorem dX12_clause_281 : decode cX12_clause 281 = .ok (.iload_n 1, 1) := by decide +kernel
theorem dX12_clause_282 : decode cX12_clause 282 = .ok (.dup2, 1) := by decide +kernel
theorem dX12_clause_283 : decode cX12_clause 283 = .ok (.iaload, 1) := by decide +kernel
theorem dX12_clause_284 : decode cX12_clause 284 = .ok (.aload_n 0, 1) := by decide +kernel
theorem dX12_clause_285 : decode cX12_clause 285 = .ok (.getfield 120, 3) := by decide +kernel
theorem dX12_clause_288 : decode cX12_clause 288 = .ok (.ifCond .ne 7, 3) := by decide +kernel
theorem dX12_clause_291 : decode cX12_clause 291 = .ok (.iconst 1, 1) := by decide +kernel
theorem dX12_clause_292 : decode cX12_clause 292 = .ok (.goto 4, 3) := by decide +kernel
theorem dX12_clause_295 : decode cX12_clause 295 = .ok (.iconst 0, 1) := by decide +kernel
theorem dX12_clause_296 : decode cX12_clause 296 = .ok (.iadd, 1) := by decide +kernel
theorem dX12_clause_297 : decode cX12_clause 297 = .ok (.iastore, 1) := by decide +kernel
theorem dX12_clause_298 : decode cX12_clause 298 = .ok (.return_, 1) := by decide +kernel
theorem dX12_hills_0 : decode cX12_hills 0 = .ok (.aload_n 0, 1) := by decide +kernel
theorem dX12_hills_1 : decode cX12_hills 1 = .ok (.iconst 0, 1) := by decide +kernel
theorem dX12_hills_2 : decode cX12_hills 2 = .ok (.putfield 104, 3) := by decide +kernel
theorem dX12_hills_5 : decode cX12_hills 5 = .ok (.aload_n 0, 1) := by decide +kernel
theorem dX12_hills_6 : decode cX12_hills 6 = .ok (.iload_n 1, 1) := by decide +kernel
theorem dX12_hills_7 : decode cX12_hills 7 = .ok (.iconst 0, 1) := by decide +kernel
theorem dX12_hills_8 : decode cX12_hills 8 = .ok (.aload_n 0, 1) := by decide +kernel
theorem dX12_hills_9 : decode cX12_hills 9 = .ok (.getfield 107, 3) := by decide +kernel
theorem dX12_hills_12 : decode cX12_hills 12 = .ok (.invokestatic 138, 3) := by decide +kernel
theorem dX12_hills_15 : decode cX12_hills 15 = .ok (.ifCond .ne 7, 3) := by decide +kernel
theorem dX12_hills_18 : decode cX12_hills 18 = .ok (.iconst 1, 1) := by decide +kernel
theorem dX12_hills_19 : decode cX12_hills 19 = .ok (.goto 4, 3) := by decide +kernel
theorem dX12_hills_22 : decode cX12_hills 22 = .ok (.iconst 0, 1) := by decide +kernel
theorem dX12_hills_23 : decode cX12_hills 23 = .ok (.iconst 1, 1) := by decide +kernel
theorem dX12_hills_24 : decode cX12_hills 24 = .ok (.iconst 1, 1) := by decide +kernel
theorem dX12_hills_25 : decode cX12_hills 25 = .ok (.invokevirtual 183, 3) := by decide +kernel
theorem dX12_hills_28 : decode cX12_hills 28 = .ok (.ifCond .eq 5, 3) := by decide +kernel
theorem dX12_hills_31 : decode cX12_hills 31 = .ok (.iconst 0, 1) := by decide +kernel
theorem dX12_hills_32 : decode cX12_hills 32 = .ok (.ireturn, 1) := by decide +kernel
theorem dX12_hills_33 : decode cX12_hills 33 = .ok (.aload_n 0, 1) := by decide +kernel
theorem dX12_hills_34 : decode cX12_hills 34 = .ok (.iload_n 1, 1) := by decide +kernel
theorem dX12_hills_35 : decode cX12_hills 35 = .ok (.invokevirtual 187, 3) := by decide +kernel
theorem dX12_hills_38 : decode cX12_hills 38 = .ok (.aload_n 0, 1) := by decide +kernel
theorem dX12_hills_39 : decode cX12_hills 39 = .ok (.invokevirtual 98, 3) := by decide +kernel
theorem dX12_hills_42 : decode cX12_hills 42 = .ok (.aload_n 0, 1) := by decide +kernel
theorem dX12_hills_43 : decode cX12_hills 43 = .ok (.getfield 120, 3) := by decide +kernel
theorem dX12_hills_46 : decode cX12_hills 46 = .ok (.ifCond .ne 25, 3) := by decide +kernel
theorem dX12_hills_49 : decode cX12_hills 49 = .ok (.aload_n 0, 1) := by decide +kernel
theorem dX12_hills_50 : decode cX12_hills 50 = .ok (.getfield 113, 3) := by decide +kernel
theorem dX12_hills_53 : decode cX12_hills 53 = .ok (.aload_n 0, 1) := by decide +kernel
theorem dX12_hills_54 : decode cX12_hills 54 = .ok (.getfield 110, 3) := by decide +kernel
theorem dX12_hills_57 : decode cX12_hills 57 = .ok (.if_icmp .ge 14, 3) := by decide +kernel
theorem dX12_hills_60 : decode cX12_hills 60 = .ok (.aload_n 0, 1) := by decide +kernel
theorem dX12_hills_61 : decode cX12_hills 61 = .ok (.invokevirtual 190, 3) := by decide +kernel
theorem dX12_hills_64 : decode cX12_hills 64 = .ok (.aload_n 0, 1) := by decide +kernel
theorem dX12_hills_65 : decode cX12_hills 65 = .ok (.invokevirtual 126, 3) := by decide +kernel
theorem dX12_hills_68 : decode cX12_hills 68 = .ok (.goto (-26), 3) := by decide +kernel
theorem dX12_hills_71 : decode cX12_hills 71 = .ok (.aload_n 0, 1) := by decide +kernel
theorem dX12_hills_72 : decode cX12_hills 72 = .ok (.getfield 120, 3) := by decide +kernel
theorem dX12_hills_75 : decode cX12_hills 75 = .ok (.ifCond .eq 8, 3) := by decide +kernel
theorem dX12_hills_78 : decode cX12_hills 78 = .ok (.aload_n 0, 1) := by decide +kernel
theorem dX12_hills_79 : decode cX12_hills 79 = .ok (.invokevirtual 193, 3) := by decide +kernel
theorem dX12_hills_82 : decode cX12_hills 82 = .ok (.ireturn, 1) := by decide +kernel
theorem dX12_hills_83 : decode cX12_hills 83 = .ok (.aload_n 0, 1) := by decide +kernel
theorem dX12_hills_84 : decode cX12_hills 84 = .ok (.iconst (-1), 1) := by decide +kernel
theorem dX12_hills_85 : decode cX12_hills 85 = .ok (.putfield 9, 3) := by decide +kernel
theorem dX12_hills_88 : decode cX12_hills 88 = .ok (.aload_n 0, 1) := by decide +kernel
theorem dX12_hills_89 : decode cX12_hills 89 = .ok (.invokevirtual 101, 3) := by decide +kernel
theorem dX12_hills_92 : decode cX12_hills 92 = .ok (.aload_n 0, 1) := by decide +kernel
theorem dX12_hills_93 : decode cX12_hills 93 = .ok (.getfield 23, 3) := by decide +kernel
theorem dX12_hills_96 : decode cX12_hills 96 = .ok (.iconst 1, 1) := by decide +kernel
theorem dX12_hills_97 : decode cX12_hills 97 = .ok (.iaload, 1) := by decide +kernel
theorem dX12_hills_98 : decode cX12_hills 98 = .ok (.ireturn, 1) := by decide +kernel
theorem dX12_lays_0 : decode cX12_lays 0 = .ok (.iconst 0, 1) := by decide +kernel
theorem dX12_lays_1 : decode cX12_lays 1 = .ok (.istore_n 3, 1) := by decide +kernel
theorem dX12_lays_2 : decode cX12_lays 2 = .ok (.iload_n 3, 1) := by decide +kernel
theorem dX12_lays_3 : decode cX12_lays 3 = .ok (.iload_n 2, 1) := by decide +kernel
theorem dX12_lays_4 : decode cX12_lays 4 = .ok (.if_icmp .ge 39, 3) := by decide +kernel
theorem dX12_lays_7 : decode cX12_lays 7 = .ok (.iconst 0, 1) := by decide +kernel
theorem dX12_lays_8 : decode cX12_lays 8 = .ok (.istore 4, 2) := by decide +kernel
theorem dX12_lays_10 : decode cX12_lays 10 = .ok (.iload 4, 2) := by decide +kernel
theorem dX12_lays_12 : decode cX12_lays 12 = .ok (.aload_n 1, 1) := by decide +kernel
theorem dX12_lays_13 : decode cX12_lays 13 = .ok (.iload_n 3, 1) := by decide +kernel
theorem dX12_lays_14 : decode cX12_lays 14 = .ok (.aaload, 1) := by decide +kernel
theorem dX12_lays_15 : decode cX12_lays 15 = .ok (.arraylength, 1) := by decide +kernel
theorem dX12_lays_16 : decode cX12_lays 16 = .ok (.if_icmp .ge 21, 3) := by decide +kernel
theorem dX12_lays_19 : decode cX12_lays 19 = .ok (.aload_n 1, 1) := by decide +kernel
theorem dX12_lays_20 : decode cX12_lays 20 = .ok (.iload_n 3, 1) := by decide +kernel
theorem dX12_lays_21 : decode cX12_lays 21 = .ok (.aaload, 1) := by decide +kernel
theorem dX12_lays_22 : decode cX12_lays 22 = .ok (.iload 4, 2) := by decide +kernel
theorem dX12_lays_24 : decode cX12_lays 24 = .ok (.aload_n 0, 1) := by decide +kernel
theorem dX12_lays_25 : decode cX12_lays 25 = .ok (.iload_n 3, 1) := by decide +kernel
theorem dX12_lays_26 : decode cX12_lays 26 = .ok (.aaload, 1) := by decide +kernel
theorem dX12_lays_27 : decode cX12_lays 27 = .ok (.iload 4, 2) := by decide +kernel
theorem dX12_lays_29 : decode cX12_lays 29 = .ok (.iaload, 1) := by decide +kernel
theorem dX12_lays_30 : decode cX12_lays 30 = .ok (.iastore, 1) := by decide +kernel
theorem dX12_lays_31 : decode cX12_lays 31 = .ok (.iinc 4 1, 3) := by decide +kernel
theorem dX12_lays_34 : decode cX12_lays 34 = .ok (.goto (-24), 3) := by decide +kernel
theorem dX12_lays_37 : decode cX12_lays 37 = .ok (.iinc 3 1, 3) := by decide +kernel
theorem dX12_lays_40 : decode cX12_lays 40 = .ok (.goto (-38), 3) := by decide +kernel
theorem dX12_lays_43 : decode cX12_lays 43 = .ok (.return_, 1) := by decide +kernel
theorem dX12_copies_0 : decode cX12_copies 0 = .ok (.iconst 0, 1) := by decide +kernel
theorem dX12_copies_1 : decode cX12_copies 1 = .ok (.istore_n 2, 1) := by decide +kernel
theorem dX12_copies_2 : decode cX12_copies 2 = .ok (.iload_n 2, 1) := by decide +kernel
theorem dX12_copies_3 : decode cX12_copies 3 = .ok (.bipush 83, 2) := by decide +kernel
theorem dX12_copies_5 : decode cX12_copies 5 = .ok (.if_icmp .ge 15, 3) := by decide +kernel
theorem dX12_copies_8 : decode cX12_copies 8 = .ok (.aload_n 1, 1) := by decide +kernel
theorem dX12_copies_9 : decode cX12_copies 9 = .ok (.iload_n 2, 1) := by decide +kernel
theorem dX12_copies_10 : decode cX12_copies 10 = .ok (.aload_n 0, 1) := by decide +kernel
theorem dX12_copies_11 : decode cX12_copies 11 = .ok (.iload_n 2, 1) := by decide +kernel
theorem dX12_copies_12 : decode cX12_copies 12 = .ok (.iaload, 1) := by decide +kernel
theorem dX12_copies_13 : decode cX12_copies 13 = .ok (.iastore, 1) := by decide +kernel
theorem dX12_copies_14 : decode cX12_copies 14 = .ok (.iinc 2 1, 3) := by decide +kernel
theorem dX12_copies_17 : decode cX12_copies 17 = .ok (.goto (-15), 3) := by decide +kernel
theorem dX12_copies_20 : decode cX12_copies 20 = .ok (.return_, 1) := by decide +kernel
theorem dX12_beginsAnew_0 : decode cX12_beginsAnew 0 = .ok (.iconst 0, 1) := by decide +kernel
theorem dX12_beginsAnew_1 : decode cX12_beginsAnew 1 = .ok (.istore_n 1, 1) := by decide +kernel
theorem dX12_beginsAnew_2 : decode cX12_beginsAnew 2 = .ok (.iload_n 1, 1) := by decide +kernel
theorem dX12_beginsAnew_3 : decode cX12_beginsAnew 3 = .ok (.iconst 3, 1) := by decide +kernel
theorem dX12_beginsAnew_4 : decode cX12_beginsAnew 4 = .ok (.if_icmp .ge 21, 3) := by decide +kernel
theorem dX12_beginsAnew_7 : decode cX12_beginsAnew 7 = .ok (.aload_n 0, 1) := by decide +kernel
theorem dX12_beginsAnew_8 : decode cX12_beginsAnew 8 = .ok (.getfield 23, 3) := by decide +kernel
theorem dX12_beginsAnew_11 : decode cX12_beginsAnew 11 = .ok (.iload_n 1, 1) := by decide +kernel
theorem dX12_beginsAnew_12 : decode cX12_beginsAnew 12 = .ok (.aload_n 0, 1) := by decide +kernel
theorem dX12_beginsAnew_13 : decode cX12_beginsAnew 13 = .ok (.getfield 20, 3) := by decide +kernel
theorem dX12_beginsAnew_16 : decode cX12_beginsAnew 16 = .ok (.iload_n 1, 1) := by decide +kernel
theorem dX12_beginsAnew_17 : decode cX12_beginsAnew 17 = .ok (.iaload, 1) := by decide +kernel
theorem dX12_beginsAnew_18 : decode cX12_beginsAnew 18 = .ok (.iastore, 1) := by decide +kernel
theorem dX12_beginsAnew_19 : decode cX12_beginsAnew 19 = .ok (.iinc 1 1, 3) := by decide +kernel
theorem dX12_beginsAnew_22 : decode cX12_beginsAnew 22 = .ok (.goto (-20), 3) := by decide +kernel
theorem dX12_beginsAnew_25 : decode cX12_beginsAnew 25 = .ok (.aload_n 0, 1) := by decide +kernel
theorem dX12_beginsAnew_26 : decode cX12_beginsAnew 26 = .ok (.getfield 28, 3) := by decide +kernel
theorem dX12_beginsAnew_29 : decode cX12_beginsAnew 29 = .ok (.aload_n 0, 1) := by decide +kernel
theorem dX12_beginsAnew_30 : decode cX12_beginsAnew 30 = .ok (.getfield 31, 3) := by decide +kernel
theorem dX12_beginsAnew_33 : decode cX12_beginsAnew 33 = .ok (.aload_n 0, 1) := by decide +kernel
theorem dX12_beginsAnew_34 : decode cX12_beginsAnew 34 = .ok (.getfield 23, 3) := by decide +kernel
theorem dX12_beginsAnew_37 : decode cX12_beginsAnew 37 = .ok (.iconst 0, 1) := by decide +kernel
theorem dX12_beginsAnew_38 : decode cX12_beginsAnew 38 = .ok (.iaload, 1) := by decide +kernel
theorem dX12_beginsAnew_39 : decode cX12_beginsAnew 39 = .ok (.invokestatic 196, 3) := by decide +kernel
theorem dX12_beginsAnew_42 : decode cX12_beginsAnew 42 = .ok (.aload_n 0, 1) := by decide +kernel
theorem dX12_beginsAnew_43 : decode cX12_beginsAnew 43 = .ok (.getfield 34, 3) := by decide +kernel
theorem dX12_beginsAnew_46 : decode cX12_beginsAnew 46 = .ok (.aload_n 0, 1) := by decide +kernel
theorem dX12_beginsAnew_47 : decode cX12_beginsAnew 47 = .ok (.getfield 37, 3) := by decide +kernel
theorem dX12_beginsAnew_50 : decode cX12_beginsAnew 50 = .ok (.aload_n 0, 1) := by decide +kernel
theorem dX12_beginsAnew_51 : decode cX12_beginsAnew 51 = .ok (.getfield 23, 3) := by decide +kernel
theorem dX12_beginsAnew_54 : decode cX12_beginsAnew 54 = .ok (.iconst 1, 1) := by decide +kernel
theorem dX12_beginsAnew_55 : decode cX12_beginsAnew 55 = .ok (.iaload, 1) := by decide +kernel
theorem dX12_beginsAnew_56 : decode cX12_beginsAnew 56 = .ok (.invokestatic 196, 3) := by decide +kernel
theorem dX12_beginsAnew_59 : decode cX12_beginsAnew 59 = .ok (.aload_n 0, 1) := by decide +kernel
theorem dX12_beginsAnew_60 : decode cX12_beginsAnew 60 = .ok (.getfield 40, 3) := by decide +kernel
theorem dX12_beginsAnew_63 : decode cX12_beginsAnew 63 = .ok (.aload_n 0, 1) := by decide +kernel
theorem dX12_beginsAnew_64 : decode cX12_beginsAnew 64 = .ok (.getfield 43, 3) := by decide +kernel
theorem dX12_beginsAnew_67 : decode cX12_beginsAnew 67 = .ok (.aload_n 0, 1) := by decide +kernel
theorem dX12_beginsAnew_68 : decode cX12_beginsAnew 68 = .ok (.getfield 23, 3) := by decide +kernel
theorem dX12_beginsAnew_71 : decode cX12_beginsAnew 71 = .ok (.iconst 2, 1) := by decide +kernel
theorem dX12_beginsAnew_72 : decode cX12_beginsAnew 72 = .ok (.iaload, 1) := by decide +kernel
theorem dX12_beginsAnew_73 : decode cX12_beginsAnew 73 = .ok (.invokestatic 196, 3) := by decide +kernel
theorem dX12_beginsAnew_76 : decode cX12_beginsAnew 76 = .ok (.iconst 0, 1) := by decide +kernel
theorem dX12_beginsAnew_77 : decode cX12_beginsAnew 77 = .ok (.istore_n 1, 1) := by decide +kernel
theorem dX12_beginsAnew_78 : decode cX12_beginsAnew 78 = .ok (.iload_n 1, 1) := by decide +kernel
theorem dX12_beginsAnew_79 : decode cX12_beginsAnew 79 = .ok (.bipush 83, 2) := by decide +kernel
theorem dX12_beginsAnew_81 : decode cX12_beginsAnew 81 = .ok (.if_icmp .ge 16, 3) := by decide +kernel
theorem dX12_beginsAnew_84 : decode cX12_beginsAnew 84 = .ok (.aload_n 0, 1) := by decide +kernel
