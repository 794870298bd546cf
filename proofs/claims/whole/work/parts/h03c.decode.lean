theorem dX12_beginsAnew_85 : decode cX12_beginsAnew 85 = .ok (.getfield 67, 3) := by decide +kernel
theorem dX12_beginsAnew_88 : decode cX12_beginsAnew 88 = .ok (.iload_n 1, 1) := by decide +kernel
theorem dX12_beginsAnew_89 : decode cX12_beginsAnew 89 = .ok (.iconst 0, 1) := by decide +kernel
theorem dX12_beginsAnew_90 : decode cX12_beginsAnew 90 = .ok (.iastore, 1) := by decide +kernel
theorem dX12_beginsAnew_91 : decode cX12_beginsAnew 91 = .ok (.iinc 1 1, 3) := by decide +kernel
theorem dX12_beginsAnew_94 : decode cX12_beginsAnew 94 = .ok (.goto (-16), 3) := by decide +kernel
theorem dX12_beginsAnew_97 : decode cX12_beginsAnew 97 = .ok (.iconst 0, 1) := by decide +kernel
theorem dX12_beginsAnew_98 : decode cX12_beginsAnew 98 = .ok (.istore_n 1, 1) := by decide +kernel
theorem dX12_beginsAnew_99 : decode cX12_beginsAnew 99 = .ok (.iload_n 1, 1) := by decide +kernel
theorem dX12_beginsAnew_100 : decode cX12_beginsAnew 100 = .ok (.bipush 12, 2) := by decide +kernel
theorem dX12_beginsAnew_102 : decode cX12_beginsAnew 102 = .ok (.if_icmp .gt 19, 3) := by decide +kernel
theorem dX12_beginsAnew_105 : decode cX12_beginsAnew 105 = .ok (.aload_n 0, 1) := by decide +kernel
theorem dX12_beginsAnew_106 : decode cX12_beginsAnew 106 = .ok (.getfield 67, 3) := by decide +kernel
theorem dX12_beginsAnew_109 : decode cX12_beginsAnew 109 = .ok (.bipush 26, 2) := by decide +kernel
theorem dX12_beginsAnew_111 : decode cX12_beginsAnew 111 = .ok (.iload_n 1, 1) := by decide +kernel
theorem dX12_beginsAnew_112 : decode cX12_beginsAnew 112 = .ok (.iadd, 1) := by decide +kernel
theorem dX12_beginsAnew_113 : decode cX12_beginsAnew 113 = .ok (.iconst (-1), 1) := by decide +kernel
theorem dX12_beginsAnew_114 : decode cX12_beginsAnew 114 = .ok (.iastore, 1) := by decide +kernel
theorem dX12_beginsAnew_115 : decode cX12_beginsAnew 115 = .ok (.iinc 1 1, 3) := by decide +kernel
theorem dX12_beginsAnew_118 : decode cX12_beginsAnew 118 = .ok (.goto (-19), 3) := by decide +kernel
theorem dX12_beginsAnew_121 : decode cX12_beginsAnew 121 = .ok (.iconst 0, 1) := by decide +kernel
theorem dX12_beginsAnew_122 : decode cX12_beginsAnew 122 = .ok (.istore_n 1, 1) := by decide +kernel
theorem dX12_beginsAnew_123 : decode cX12_beginsAnew 123 = .ok (.iload_n 1, 1) := by decide +kernel
theorem dX12_beginsAnew_124 : decode cX12_beginsAnew 124 = .ok (.aload_n 0, 1) := by decide +kernel
theorem dX12_beginsAnew_125 : decode cX12_beginsAnew 125 = .ok (.getfield 23, 3) := by decide +kernel
theorem dX12_beginsAnew_128 : decode cX12_beginsAnew 128 = .ok (.iconst 1, 1) := by decide +kernel
theorem dX12_beginsAnew_129 : decode cX12_beginsAnew 129 = .ok (.iaload, 1) := by decide +kernel
theorem dX12_beginsAnew_130 : decode cX12_beginsAnew 130 = .ok (.if_icmp .ge 18, 3) := by decide +kernel
theorem dX12_beginsAnew_133 : decode cX12_beginsAnew 133 = .ok (.aload_n 0, 1) := by decide +kernel
theorem dX12_beginsAnew_134 : decode cX12_beginsAnew 134 = .ok (.aload_n 0, 1) := by decide +kernel
theorem dX12_beginsAnew_135 : decode cX12_beginsAnew 135 = .ok (.getfield 67, 3) := by decide +kernel
theorem dX12_beginsAnew_138 : decode cX12_beginsAnew 138 = .ok (.iload_n 1, 1) := by decide +kernel
theorem dX12_beginsAnew_139 : decode cX12_beginsAnew 139 = .ok (.invokevirtual 200, 3) := by decide +kernel
theorem dX12_beginsAnew_142 : decode cX12_beginsAnew 142 = .ok (.iinc 1 1, 3) := by decide +kernel
theorem dX12_beginsAnew_145 : decode cX12_beginsAnew 145 = .ok (.goto (-22), 3) := by decide +kernel
theorem dX12_beginsAnew_148 : decode cX12_beginsAnew 148 = .ok (.iconst 0, 1) := by decide +kernel
theorem dX12_beginsAnew_149 : decode cX12_beginsAnew 149 = .ok (.istore_n 1, 1) := by decide +kernel
theorem dX12_beginsAnew_150 : decode cX12_beginsAnew 150 = .ok (.iload_n 1, 1) := by decide +kernel
theorem dX12_beginsAnew_151 : decode cX12_beginsAnew 151 = .ok (.aload_n 0, 1) := by decide +kernel
theorem dX12_beginsAnew_152 : decode cX12_beginsAnew 152 = .ok (.getfield 23, 3) := by decide +kernel
theorem dX12_beginsAnew_155 : decode cX12_beginsAnew 155 = .ok (.iconst 0, 1) := by decide +kernel
theorem dX12_beginsAnew_156 : decode cX12_beginsAnew 156 = .ok (.iaload, 1) := by decide +kernel
theorem dX12_beginsAnew_157 : decode cX12_beginsAnew 157 = .ok (.if_icmp .ge 26, 3) := by decide +kernel
theorem dX12_beginsAnew_160 : decode cX12_beginsAnew 160 = .ok (.aload_n 0, 1) := by decide +kernel
theorem dX12_beginsAnew_161 : decode cX12_beginsAnew 161 = .ok (.getfield 67, 3) := by decide +kernel
theorem dX12_beginsAnew_164 : decode cX12_beginsAnew 164 = .ok (.bipush 39, 2) := by decide +kernel
theorem dX12_beginsAnew_166 : decode cX12_beginsAnew 166 = .ok (.iload_n 1, 1) := by decide +kernel
theorem dX12_beginsAnew_167 : decode cX12_beginsAnew 167 = .ok (.iadd, 1) := by decide +kernel
theorem dX12_beginsAnew_168 : decode cX12_beginsAnew 168 = .ok (.aload_n 0, 1) := by decide +kernel
theorem dX12_beginsAnew_169 : decode cX12_beginsAnew 169 = .ok (.getfield 31, 3) := by decide +kernel
theorem dX12_beginsAnew_172 : decode cX12_beginsAnew 172 = .ok (.iload_n 1, 1) := by decide +kernel
theorem dX12_beginsAnew_173 : decode cX12_beginsAnew 173 = .ok (.aaload, 1) := by decide +kernel
theorem dX12_beginsAnew_174 : decode cX12_beginsAnew 174 = .ok (.iconst 0, 1) := by decide +kernel
theorem dX12_beginsAnew_175 : decode cX12_beginsAnew 175 = .ok (.iaload, 1) := by decide +kernel
theorem dX12_beginsAnew_176 : decode cX12_beginsAnew 176 = .ok (.iastore, 1) := by decide +kernel
theorem dX12_beginsAnew_177 : decode cX12_beginsAnew 177 = .ok (.iinc 1 1, 3) := by decide +kernel
theorem dX12_beginsAnew_180 : decode cX12_beginsAnew 180 = .ok (.goto (-30), 3) := by decide +kernel
theorem dX12_beginsAnew_183 : decode cX12_beginsAnew 183 = .ok (.aload_n 0, 1) := by decide +kernel
theorem dX12_beginsAnew_184 : decode cX12_beginsAnew 184 = .ok (.iconst 0, 1) := by decide +kernel
theorem dX12_beginsAnew_185 : decode cX12_beginsAnew 185 = .ok (.putfield 204, 3) := by decide +kernel
theorem dX12_beginsAnew_188 : decode cX12_beginsAnew 188 = .ok (.aload_n 0, 1) := by decide +kernel
theorem dX12_beginsAnew_189 : decode cX12_beginsAnew 189 = .ok (.iconst 0, 1) := by decide +kernel
theorem dX12_beginsAnew_190 : decode cX12_beginsAnew 190 = .ok (.putfield 207, 3) := by decide +kernel
theorem dX12_beginsAnew_193 : decode cX12_beginsAnew 193 = .ok (.aload_n 0, 1) := by decide +kernel
theorem dX12_beginsAnew_194 : decode cX12_beginsAnew 194 = .ok (.iconst 0, 1) := by decide +kernel
theorem dX12_beginsAnew_195 : decode cX12_beginsAnew 195 = .ok (.putfield 210, 3) := by decide +kernel
theorem dX12_beginsAnew_198 : decode cX12_beginsAnew 198 = .ok (.aload_n 0, 1) := by decide +kernel
theorem dX12_beginsAnew_199 : decode cX12_beginsAnew 199 = .ok (.iconst 0, 1) := by decide +kernel
theorem dX12_beginsAnew_200 : decode cX12_beginsAnew 200 = .ok (.putfield 213, 3) := by decide +kernel
theorem dX12_beginsAnew_203 : decode cX12_beginsAnew 203 = .ok (.aload_n 0, 1) := by decide +kernel
theorem dX12_beginsAnew_204 : decode cX12_beginsAnew 204 = .ok (.iconst 0, 1) := by decide +kernel
theorem dX12_beginsAnew_205 : decode cX12_beginsAnew 205 = .ok (.putfield 216, 3) := by decide +kernel
theorem dX12_beginsAnew_208 : decode cX12_beginsAnew 208 = .ok (.return_, 1) := by decide +kernel
theorem dX12_comes_0 : decode cX12_comes 0 = .ok (.aload_n 1, 1) := by decide +kernel
theorem dX12_comes_1 : decode cX12_comes 1 = .ok (.iconst 0, 1) := by decide +kernel
theorem dX12_comes_2 : decode cX12_comes 2 = .ok (.iload_n 2, 1) := by decide +kernel
theorem dX12_comes_3 : decode cX12_comes 3 = .ok (.iadd, 1) := by decide +kernel
theorem dX12_comes_4 : decode cX12_comes 4 = .ok (.aload_n 0, 1) := by decide +kernel
theorem dX12_comes_5 : decode cX12_comes 5 = .ok (.getfield 37, 3) := by decide +kernel
theorem dX12_comes_8 : decode cX12_comes 8 = .ok (.iload_n 2, 1) := by decide +kernel
theorem dX12_comes_9 : decode cX12_comes 9 = .ok (.aaload, 1) := by decide +kernel
theorem dX12_comes_10 : decode cX12_comes 10 = .ok (.iconst 3, 1) := by decide +kernel
theorem dX12_comes_11 : decode cX12_comes 11 = .ok (.iaload, 1) := by decide +kernel
theorem dX12_comes_12 : decode cX12_comes 12 = .ok (.iastore, 1) := by decide +kernel
theorem dX12_comes_13 : decode cX12_comes 13 = .ok (.aload_n 1, 1) := by decide +kernel
theorem dX12_comes_14 : decode cX12_comes 14 = .ok (.bipush 13, 2) := by decide +kernel
theorem dX12_comes_16 : decode cX12_comes 16 = .ok (.iload_n 2, 1) := by decide +kernel
theorem dX12_comes_17 : decode cX12_comes 17 = .ok (.iadd, 1) := by decide +kernel
theorem dX12_comes_18 : decode cX12_comes 18 = .ok (.iconst 0, 1) := by decide +kernel
theorem dX12_comes_19 : decode cX12_comes 19 = .ok (.iastore, 1) := by decide +kernel
theorem dX12_comes_20 : decode cX12_comes 20 = .ok (.aload_n 1, 1) := by decide +kernel
theorem dX12_comes_21 : decode cX12_comes 21 = .ok (.bipush 26, 2) := by decide +kernel
theorem dX12_comes_23 : decode cX12_comes 23 = .ok (.iload_n 2, 1) := by decide +kernel
theorem dX12_comes_24 : decode cX12_comes 24 = .ok (.iadd, 1) := by decide +kernel
theorem dX12_comes_25 : decode cX12_comes 25 = .ok (.aload_n 0, 1) := by decide +kernel
theorem dX12_comes_26 : decode cX12_comes 26 = .ok (.getfield 37, 3) := by decide +kernel
theorem dX12_comes_29 : decode cX12_comes 29 = .ok (.iload_n 2, 1) := by decide +kernel
theorem dX12_comes_30 : decode cX12_comes 30 = .ok (.aaload, 1) := by decide +kernel
theorem dX12_comes_31 : decode cX12_comes 31 = .ok (.iconst 0, 1) := by decide +kernel
theorem dX12_comes_32 : decode cX12_comes 32 = .ok (.iaload, 1) := by decide +kernel
theorem dX12_comes_33 : decode cX12_comes 33 = .ok (.iastore, 1) := by decide +kernel
theorem dX12_comes_34 : decode cX12_comes 34 = .ok (.return_, 1) := by decide +kernel
theorem dX12_notes_0 : decode cX12_notes 0 = .ok (.aload_n 0, 1) := by decide +kernel
theorem dX12_notes_1 : decode cX12_notes 1 = .ok (.getfield 120, 3) := by decide +kernel
theorem dX12_notes_4 : decode cX12_notes 4 = .ok (.ifCond .eq 4, 3) := by decide +kernel
theorem dX12_notes_7 : decode cX12_notes 7 = .ok (.return_, 1) := by decide +kernel
theorem dX12_notes_8 : decode cX12_notes 8 = .ok (.aload_n 0, 1) := by decide +kernel
theorem dX12_notes_9 : decode cX12_notes 9 = .ok (.getfield 49, 3) := by decide +kernel
theorem dX12_notes_12 : decode cX12_notes 12 = .ok (.aload_n 0, 1) := by decide +kernel
theorem dX12_notes_13 : decode cX12_notes 13 = .ok (.getfield 219, 3) := by decide +kernel
theorem dX12_notes_16 : decode cX12_notes 16 = .ok (.aaload, 1) := by decide +kernel
theorem dX12_notes_17 : decode cX12_notes 17 = .ok (.iconst 0, 1) := by decide +kernel
theorem dX12_notes_18 : decode cX12_notes 18 = .ok (.iload_n 1, 1) := by decide +kernel
theorem dX12_notes_19 : decode cX12_notes 19 = .ok (.iastore, 1) := by decide +kernel
theorem dX12_notes_20 : decode cX12_notes 20 = .ok (.aload_n 0, 1) := by decide +kernel
theorem dX12_notes_21 : decode cX12_notes 21 = .ok (.getfield 49, 3) := by decide +kernel
theorem dX12_notes_24 : decode cX12_notes 24 = .ok (.aload_n 0, 1) := by decide +kernel
theorem dX12_notes_25 : decode cX12_notes 25 = .ok (.getfield 219, 3) := by decide +kernel
theorem dX12_notes_28 : decode cX12_notes 28 = .ok (.aaload, 1) := by decide +kernel
theorem dX12_notes_29 : decode cX12_notes 29 = .ok (.iconst 1, 1) := by decide +kernel
theorem dX12_notes_30 : decode cX12_notes 30 = .ok (.iload_n 2, 1) := by decide +kernel
theorem dX12_notes_31 : decode cX12_notes 31 = .ok (.iastore, 1) := by decide +kernel
theorem dX12_notes_32 : decode cX12_notes 32 = .ok (.aload_n 0, 1) := by decide +kernel
theorem dX12_notes_33 : decode cX12_notes 33 = .ok (.dup, 1) := by decide +kernel
theorem dX12_notes_34 : decode cX12_notes 34 = .ok (.getfield 219, 3) := by decide +kernel
theorem dX12_notes_37 : decode cX12_notes 37 = .ok (.iconst 1, 1) := by decide +kernel
theorem dX12_notes_38 : decode cX12_notes 38 = .ok (.iadd, 1) := by decide +kernel
theorem dX12_notes_39 : decode cX12_notes 39 = .ok (.putfield 219, 3) := by decide +kernel
theorem dX12_notes_42 : decode cX12_notes 42 = .ok (.return_, 1) := by decide +kernel
theorem dX12_opensOne_0 : decode cX12_opensOne 0 = .ok (.aload_n 0, 1) := by decide +kernel
theorem dX12_opensOne_1 : decode cX12_opensOne 1 = .ok (.getfield 120, 3) := by decide +kernel
theorem dX12_opensOne_4 : decode cX12_opensOne 4 = .ok (.ifCond .ne 24, 3) := by decide +kernel
theorem dX12_opensOne_7 : decode cX12_opensOne 7 = .ok (.aload_n 0, 1) := by decide +kernel
theorem dX12_opensOne_8 : decode cX12_opensOne 8 = .ok (.getfield 163, 3) := by decide +kernel
theorem dX12_opensOne_11 : decode cX12_opensOne 11 = .ok (.bipush 6, 2) := by decide +kernel
theorem dX12_opensOne_13 : decode cX12_opensOne 13 = .ok (.if_icmp .ne 15, 3) := by decide +kernel
theorem dX12_opensOne_16 : decode cX12_opensOne 16 = .ok (.aload_n 0, 1) := by decide +kernel
theorem dX12_opensOne_17 : decode cX12_opensOne 17 = .ok (.iconst 3, 1) := by decide +kernel
theorem dX12_opensOne_18 : decode cX12_opensOne 18 = .ok (.aload_n 0, 1) := by decide +kernel
theorem dX12_opensOne_19 : decode cX12_opensOne 19 = .ok (.getfield 113, 3) := by decide +kernel
theorem dX12_opensOne_22 : decode cX12_opensOne 22 = .ok (.invokevirtual 133, 3) := by decide +kernel
theorem dX12_opensOne_25 : decode cX12_opensOne 25 = .ok (.goto 20, 3) := by decide +kernel
theorem dX12_opensOne_28 : decode cX12_opensOne 28 = .ok (.aload_n 0, 1) := by decide +kernel
theorem dX12_opensOne_29 : decode cX12_opensOne 29 = .ok (.getfield 120, 3) := by decide +kernel
theorem dX12_opensOne_32 : decode cX12_opensOne 32 = .ok (.ifCond .ne 13, 3) := by decide +kernel
theorem dX12_opensOne_35 : decode cX12_opensOne 35 = .ok (.aload_n 0, 1) := by decide +kernel
theorem dX12_opensOne_36 : decode cX12_opensOne 36 = .ok (.dup, 1) := by decide +kernel
theorem dX12_opensOne_37 : decode cX12_opensOne 37 = .ok (.getfield 163, 3) := by decide +kernel
theorem dX12_opensOne_40 : decode cX12_opensOne 40 = .ok (.iconst 1, 1) := by decide +kernel
theorem dX12_opensOne_41 : decode cX12_opensOne 41 = .ok (.iadd, 1) := by decide +kernel
theorem dX12_opensOne_42 : decode cX12_opensOne 42 = .ok (.putfield 163, 3) := by decide +kernel
theorem dX12_opensOne_45 : decode cX12_opensOne 45 = .ok (.aload_n 0, 1) := by decide +kernel
theorem dX12_opensOne_46 : decode cX12_opensOne 46 = .ok (.getfield 120, 3) := by decide +kernel
theorem dX12_opensOne_49 : decode cX12_opensOne 49 = .ok (.ifCond .ne 7, 3) := by decide +kernel
theorem dX12_opensOne_52 : decode cX12_opensOne 52 = .ok (.iconst 1, 1) := by decide +kernel
theorem dX12_opensOne_53 : decode cX12_opensOne 53 = .ok (.goto 4, 3) := by decide +kernel
theorem dX12_opensOne_56 : decode cX12_opensOne 56 = .ok (.iconst 0, 1) := by decide +kernel
theorem dX12_opensOne_57 : decode cX12_opensOne 57 = .ok (.ireturn, 1) := by decide +kernel
theorem dX12_sum_0 : decode cX12_sum 0 = .ok (.aload_n 0, 1) := by decide +kernel
theorem dX12_sum_1 : decode cX12_sum 1 = .ok (.invokevirtual 222, 3) := by decide +kernel
theorem dX12_sum_4 : decode cX12_sum 4 = .ok (.aload_n 0, 1) := by decide +kernel
theorem dX12_sum_5 : decode cX12_sum 5 = .ok (.getfield 120, 3) := by decide +kernel
theorem dX12_sum_8 : decode cX12_sum 8 = .ok (.ifCond .ne 50, 3) := by decide +kernel
theorem dX12_sum_11 : decode cX12_sum 11 = .ok (.aload_n 0, 1) := by decide +kernel
theorem dX12_sum_12 : decode cX12_sum 12 = .ok (.bipush 43, 2) := by decide +kernel
theorem dX12_sum_14 : decode cX12_sum 14 = .ok (.invokevirtual 225, 3) := by decide +kernel
theorem dX12_sum_17 : decode cX12_sum 17 = .ok (.ifCond .eq 7, 3) := by decide +kernel
theorem dX12_sum_20 : decode cX12_sum 20 = .ok (.iconst 2, 1) := by decide +kernel
theorem dX12_sum_21 : decode cX12_sum 21 = .ok (.goto 17, 3) := by decide +kernel
theorem dX12_sum_24 : decode cX12_sum 24 = .ok (.aload_n 0, 1) := by decide +kernel
theorem dX12_sum_25 : decode cX12_sum 25 = .ok (.bipush 45, 2) := by decide +kernel
theorem dX12_sum_27 : decode cX12_sum 27 = .ok (.invokevirtual 225, 3) := by decide +kernel
theorem dX12_sum_30 : decode cX12_sum 30 = .ok (.ifCond .eq 7, 3) := by decide +kernel
theorem dX12_sum_33 : decode cX12_sum 33 = .ok (.iconst 3, 1) := by decide +kernel
theorem dX12_sum_34 : decode cX12_sum 34 = .ok (.goto 4, 3) := by decide +kernel
theorem dX12_sum_37 : decode cX12_sum 37 = .ok (.iconst (-1), 1) := by decide +kernel
theorem dX12_sum_38 : decode cX12_sum 38 = .ok (.istore_n 1, 1) := by decide +kernel
theorem dX12_sum_39 : decode cX12_sum 39 = .ok (.iload_n 1, 1) := by decide +kernel
theorem dX12_sum_40 : decode cX12_sum 40 = .ok (.iconst (-1), 1) := by decide +kernel
theorem dX12_sum_41 : decode cX12_sum 41 = .ok (.if_icmp .ne 4, 3) := by decide +kernel
theorem dX12_sum_44 : decode cX12_sum 44 = .ok (.return_, 1) := by decide +kernel
theorem dX12_sum_45 : decode cX12_sum 45 = .ok (.aload_n 0, 1) := by decide +kernel
theorem dX12_sum_46 : decode cX12_sum 46 = .ok (.invokevirtual 222, 3) := by decide +kernel
theorem dX12_sum_49 : decode cX12_sum 49 = .ok (.aload_n 0, 1) := by decide +kernel
theorem dX12_sum_50 : decode cX12_sum 50 = .ok (.iload_n 1, 1) := by decide +kernel
theorem dX12_sum_51 : decode cX12_sum 51 = .ok (.iconst 0, 1) := by decide +kernel
theorem dX12_sum_52 : decode cX12_sum 52 = .ok (.invokevirtual 228, 3) := by decide +kernel
theorem dX12_sum_55 : decode cX12_sum 55 = .ok (.goto (-51), 3) := by decide +kernel
theorem dX12_sum_58 : decode cX12_sum 58 = .ok (.return_, 1) := by decide +kernel
theorem dX12_product_0 : decode cX12_product 0 = .ok (.aload_n 0, 1) := by decide +kernel
theorem dX12_product_1 : decode cX12_product 1 = .ok (.invokevirtual 231, 3) := by decide +kernel
theorem dX12_product_4 : decode cX12_product 4 = .ok (.aload_n 0, 1) := by decide +kernel
theorem dX12_product_5 : decode cX12_product 5 = .ok (.getfield 120, 3) := by decide +kernel
theorem dX12_product_8 : decode cX12_product 8 = .ok (.ifCond .ne 64, 3) := by decide +kernel
theorem dX12_product_11 : decode cX12_product 11 = .ok (.aload_n 0, 1) := by decide +kernel
theorem dX12_product_12 : decode cX12_product 12 = .ok (.bipush 42, 2) := by decide +kernel
theorem dX12_product_14 : decode cX12_product 14 = .ok (.invokevirtual 225, 3) := by decide +kernel
theorem dX12_product_17 : decode cX12_product 17 = .ok (.ifCond .eq 7, 3) := by decide +kernel
theorem dX12_product_20 : decode cX12_product 20 = .ok (.iconst 4, 1) := by decide +kernel
theorem dX12_product_21 : decode cX12_product 21 = .ok (.goto 31, 3) := by decide +kernel
theorem dX12_product_24 : decode cX12_product 24 = .ok (.aload_n 0, 1) := by decide +kernel
theorem dX12_product_25 : decode cX12_product 25 = .ok (.bipush 47, 2) := by decide +kernel
theorem dX12_product_27 : decode cX12_product 27 = .ok (.invokevirtual 225, 3) := by decide +kernel
theorem dX12_product_30 : decode cX12_product 30 = .ok (.ifCond .eq 7, 3) := by decide +kernel
theorem dX12_product_33 : decode cX12_product 33 = .ok (.iconst 5, 1) := by decide +kernel
theorem dX12_product_34 : decode cX12_product 34 = .ok (.goto 18, 3) := by decide +kernel
theorem dX12_product_37 : decode cX12_product 37 = .ok (.aload_n 0, 1) := by decide +kernel
theorem dX12_product_38 : decode cX12_product 38 = .ok (.bipush 37, 2) := by decide +kernel
theorem dX12_product_40 : decode cX12_product 40 = .ok (.invokevirtual 225, 3) := by decide +kernel
theorem dX12_product_43 : decode cX12_product 43 = .ok (.ifCond .eq 8, 3) := by decide +kernel
theorem dX12_product_46 : decode cX12_product 46 = .ok (.bipush 6, 2) := by decide +kernel
theorem dX12_product_48 : decode cX12_product 48 = .ok (.goto 4, 3) := by decide +kernel
theorem dX12_product_51 : decode cX12_product 51 = .ok (.iconst (-1), 1) := by decide +kernel
theorem dX12_product_52 : decode cX12_product 52 = .ok (.istore_n 1, 1) := by decide +kernel
theorem dX12_product_53 : decode cX12_product 53 = .ok (.iload_n 1, 1) := by decide +kernel
theorem dX12_product_54 : decode cX12_product 54 = .ok (.iconst (-1), 1) := by decide +kernel
theorem dX12_product_55 : decode cX12_product 55 = .ok (.if_icmp .ne 4, 3) := by decide +kernel
theorem dX12_product_58 : decode cX12_product 58 = .ok (.return_, 1) := by decide +kernel
theorem dX12_product_59 : decode cX12_product 59 = .ok (.aload_n 0, 1) := by decide +kernel
theorem dX12_product_60 : decode cX12_product 60 = .ok (.invokevirtual 231, 3) := by decide +kernel
theorem dX12_product_63 : decode cX12_product 63 = .ok (.aload_n 0, 1) := by decide +kernel
theorem dX12_product_64 : decode cX12_product 64 = .ok (.iload_n 1, 1) := by decide +kernel
theorem dX12_product_65 : decode cX12_product 65 = .ok (.iconst 0, 1) := by decide +kernel
theorem dX12_product_66 : decode cX12_product 66 = .ok (.invokevirtual 228, 3) := by decide +kernel
theorem dX12_product_69 : decode cX12_product 69 = .ok (.goto (-65), 3) := by decide +kernel
theorem dX12_product_72 : decode cX12_product 72 = .ok (.return_, 1) := by decide +kernel
theorem dX12_knownHere_0 : decode cX12_knownHere 0 = .ok (.aload_n 0, 1) := by decide +kernel
theorem dX12_knownHere_1 : decode cX12_knownHere 1 = .ok (.bipush 23, 2) := by decide +kernel
theorem dX12_knownHere_3 : decode cX12_knownHere 3 = .ok (.iconst 5, 1) := by decide +kernel
theorem dX12_knownHere_4 : decode cX12_knownHere 4 = .ok (.bipush 9, 2) := by decide +kernel
theorem dX12_knownHere_6 : decode cX12_knownHere 6 = .ok (.bipush 7, 2) := by decide +kernel
theorem dX12_knownHere_8 : decode cX12_knownHere 8 = .ok (.bipush 8, 2) := by decide +kernel
theorem dX12_knownHere_10 : decode cX12_knownHere 10 = .ok (.bipush 20, 2) := by decide +kernel
theorem dX12_knownHere_12 : decode cX12_knownHere 12 = .ok (.invokevirtual 234, 3) := by decide +kernel
theorem dX12_knownHere_15 : decode cX12_knownHere 15 = .ok (.ifCond .eq 5, 3) := by decide +kernel
theorem dX12_knownHere_18 : decode cX12_knownHere 18 = .ok (.iconst 0, 1) := by decide +kernel
theorem dX12_knownHere_19 : decode cX12_knownHere 19 = .ok (.ireturn, 1) := by decide +kernel
theorem dX12_knownHere_20 : decode cX12_knownHere 20 = .ok (.aload_n 0, 1) := by decide +kernel
theorem dX12_knownHere_21 : decode cX12_knownHere 21 = .ok (.bipush 11, 2) := by decide +kernel
theorem dX12_knownHere_23 : decode cX12_knownHere 23 = .ok (.bipush 9, 2) := by decide +kernel
theorem dX12_knownHere_25 : decode cX12_knownHere 25 = .ok (.bipush 14, 2) := by decide +kernel
theorem dX12_knownHere_27 : decode cX12_knownHere 27 = .ok (.iconst 4, 1) := by decide +kernel
theorem dX12_knownHere_28 : decode cX12_knownHere 28 = .ok (.iconst 0, 1) := by decide +kernel
theorem dX12_knownHere_29 : decode cX12_knownHere 29 = .ok (.iconst 0, 1) := by decide +kernel
theorem dX12_knownHere_30 : decode cX12_knownHere 30 = .ok (.invokevirtual 234, 3) := by decide +kernel
theorem dX12_knownHere_33 : decode cX12_knownHere 33 = .ok (.ifCond .eq 5, 3) := by decide +kernel
theorem dX12_knownHere_36 : decode cX12_knownHere 36 = .ok (.iconst 1, 1) := by decide +kernel
theorem dX12_knownHere_37 : decode cX12_knownHere 37 = .ok (.ireturn, 1) := by decide +kernel
theorem dX12_knownHere_38 : decode cX12_knownHere 38 = .ok (.aload_n 0, 1) := by decide +kernel
theorem dX12_knownHere_39 : decode cX12_knownHere 39 = .ok (.iconst 1, 1) := by decide +kernel
theorem dX12_knownHere_40 : decode cX12_knownHere 40 = .ok (.bipush 7, 2) := by decide +kernel
theorem dX12_knownHere_42 : decode cX12_knownHere 42 = .ok (.iconst 5, 1) := by decide +kernel
theorem dX12_knownHere_43 : decode cX12_knownHere 43 = .ok (.iconst 0, 1) := by decide +kernel
theorem dX12_knownHere_44 : decode cX12_knownHere 44 = .ok (.iconst 0, 1) := by decide +kernel
theorem dX12_knownHere_45 : decode cX12_knownHere 45 = .ok (.iconst 0, 1) := by decide +kernel
theorem dX12_knownHere_46 : decode cX12_knownHere 46 = .ok (.invokevirtual 234, 3) := by decide +kernel
theorem dX12_knownHere_49 : decode cX12_knownHere 49 = .ok (.ifCond .eq 5, 3) := by decide +kernel
theorem dX12_knownHere_52 : decode cX12_knownHere 52 = .ok (.iconst 2, 1) := by decide +kernel
theorem dX12_knownHere_53 : decode cX12_knownHere 53 = .ok (.ireturn, 1) := by decide +kernel
theorem dX12_knownHere_54 : decode cX12_knownHere 54 = .ok (.aload_n 0, 1) := by decide +kernel
theorem dX12_knownHere_55 : decode cX12_knownHere 55 = .ok (.bipush 7, 2) := by decide +kernel
theorem dX12_knownHere_57 : decode cX12_knownHere 57 = .ok (.bipush 18, 2) := by decide +kernel
theorem dX12_knownHere_59 : decode cX12_knownHere 59 = .ok (.iconst 1, 1) := by decide +kernel
theorem dX12_knownHere_60 : decode cX12_knownHere 60 = .ok (.bipush 19, 2) := by decide +kernel
theorem dX12_knownHere_62 : decode cX12_knownHere 62 = .ok (.bipush 19, 2) := by decide +kernel
theorem dX12_knownHere_64 : decode cX12_knownHere 64 = .ok (.iconst 0, 1) := by decide +kernel
theorem dX12_knownHere_65 : decode cX12_knownHere 65 = .ok (.invokevirtual 234, 3) := by decide +kernel
theorem dX12_knownHere_68 : decode cX12_knownHere 68 = .ok (.ifCond .eq 5, 3) := by decide +kernel
theorem dX12_knownHere_71 : decode cX12_knownHere 71 = .ok (.iconst 3, 1) := by decide +kernel
theorem dX12_knownHere_72 : decode cX12_knownHere 72 = .ok (.ireturn, 1) := by decide +kernel
theorem dX12_knownHere_73 : decode cX12_knownHere 73 = .ok (.aload_n 0, 1) := by decide +kernel
theorem dX12_knownHere_74 : decode cX12_knownHere 74 = .ok (.bipush 15, 2) := by decide +kernel
theorem dX12_knownHere_76 : decode cX12_knownHere 76 = .ok (.bipush 20, 2) := by decide +kernel
theorem dX12_knownHere_78 : decode cX12_knownHere 78 = .ok (.bipush 8, 2) := by decide +kernel
theorem dX12_knownHere_80 : decode cX12_knownHere 80 = .ok (.iconst 5, 1) := by decide +kernel
theorem dX12_knownHere_81 : decode cX12_knownHere 81 = .ok (.bipush 18, 2) := by decide +kernel
theorem dX12_knownHere_83 : decode cX12_knownHere 83 = .ok (.bipush 19, 2) := by decide +kernel
theorem dX12_knownHere_85 : decode cX12_knownHere 85 = .ok (.invokevirtual 234, 3) := by decide +kernel
theorem dX12_knownHere_88 : decode cX12_knownHere 88 = .ok (.ifCond .eq 5, 3) := by decide +kernel
theorem dX12_knownHere_91 : decode cX12_knownHere 91 = .ok (.iconst 4, 1) := by decide +kernel
theorem dX12_knownHere_92 : decode cX12_knownHere 92 = .ok (.ireturn, 1) := by decide +kernel
theorem dX12_knownHere_93 : decode cX12_knownHere 93 = .ok (.aload_n 0, 1) := by decide +kernel
theorem dX12_knownHere_94 : decode cX12_knownHere 94 = .ok (.iconst 3, 1) := by decide +kernel
theorem dX12_knownHere_95 : decode cX12_knownHere 95 = .ok (.bipush 15, 2) := by decide +kernel
theorem dX12_knownHere_97 : decode cX12_knownHere 97 = .ok (.bipush 15, 2) := by decide +kernel
theorem dX12_knownHere_99 : decode cX12_knownHere 99 = .ok (.bipush 12, 2) := by decide +kernel
theorem dX12_knownHere_101 : decode cX12_knownHere 101 = .ok (.iconst 0, 1) := by decide +kernel
theorem dX12_knownHere_102 : decode cX12_knownHere 102 = .ok (.iconst 0, 1) := by decide +kernel
theorem dX12_knownHere_103 : decode cX12_knownHere 103 = .ok (.invokevirtual 234, 3) := by decide +kernel
theorem dX12_knownHere_106 : decode cX12_knownHere 106 = .ok (.ifCond .eq 5, 3) := by decide +kernel
theorem dX12_knownHere_109 : decode cX12_knownHere 109 = .ok (.iconst 5, 1) := by decide +kernel
theorem dX12_knownHere_110 : decode cX12_knownHere 110 = .ok (.ireturn, 1) := by decide +kernel
theorem dX12_knownHere_111 : decode cX12_knownHere 111 = .ok (.aload_n 0, 1) := by decide +kernel
theorem dX12_knownHere_112 : decode cX12_knownHere 112 = .ok (.iconst 4, 1) := by decide +kernel
theorem dX12_knownHere_113 : decode cX12_knownHere 113 = .ok (.iconst 1, 1) := by decide +kernel
theorem dX12_knownHere_114 : decode cX12_knownHere 114 = .ok (.bipush 25, 2) := by decide +kernel
theorem dX12_knownHere_116 : decode cX12_knownHere 116 = .ok (.iconst 0, 1) := by decide +kernel
theorem dX12_knownHere_117 : decode cX12_knownHere 117 = .ok (.iconst 0, 1) := by decide +kernel
theorem dX12_knownHere_118 : decode cX12_knownHere 118 = .ok (.iconst 0, 1) := by decide +kernel
theorem dX12_knownHere_119 : decode cX12_knownHere 119 = .ok (.invokevirtual 234, 3) := by decide +kernel
theorem dX12_knownHere_122 : decode cX12_knownHere 122 = .ok (.ifCond .eq 6, 3) := by decide +kernel
theorem dX12_knownHere_125 : decode cX12_knownHere 125 = .ok (.bipush 6, 2) := by decide +kernel
theorem dX12_knownHere_127 : decode cX12_knownHere 127 = .ok (.ireturn, 1) := by decide +kernel
theorem dX12_knownHere_128 : decode cX12_knownHere 128 = .ok (.aload_n 0, 1) := by decide +kernel
theorem dX12_knownHere_129 : decode cX12_knownHere 129 = .ok (.iconst 2, 1) := by decide +kernel
theorem dX12_knownHere_130 : decode cX12_knownHere 130 = .ok (.iconst 5, 1) := by decide +kernel
theorem dX12_knownHere_131 : decode cX12_knownHere 131 = .ok (.iconst 1, 1) := by decide +kernel
theorem dX12_knownHere_132 : decode cX12_knownHere 132 = .ok (.bipush 19, 2) := by decide +kernel
theorem dX12_knownHere_134 : decode cX12_knownHere 134 = .ok (.bipush 20, 2) := by decide +kernel
theorem dX12_knownHere_136 : decode cX12_knownHere 136 = .ok (.iconst 0, 1) := by decide +kernel
theorem dX12_knownHere_137 : decode cX12_knownHere 137 = .ok (.invokevirtual 234, 3) := by decide +kernel
theorem dX12_knownHere_140 : decode cX12_knownHere 140 = .ok (.ifCond .eq 8, 3) := by decide +kernel
theorem dX12_knownHere_143 : decode cX12_knownHere 143 = .ok (.bipush 7, 2) := by decide +kernel
theorem dX12_knownHere_145 : decode cX12_knownHere 145 = .ok (.goto 4, 3) := by decide +kernel
theorem dX12_knownHere_148 : decode cX12_knownHere 148 = .ok (.iconst (-1), 1) := by decide +kernel
theorem dX12_knownHere_149 : decode cX12_knownHere 149 = .ok (.ireturn, 1) := by decide +kernel
theorem dX12_one_0 : decode cX12_one 0 = .ok (.aload_n 0, 1) := by decide +kernel
theorem dX12_one_1 : decode cX12_one 1 = .ok (.getfield 120, 3) := by decide +kernel
theorem dX12_one_4 : decode cX12_one 4 = .ok (.ifCond .eq 4, 3) := by decide +kernel
theorem dX12_one_7 : decode cX12_one 7 = .ok (.return_, 1) := by decide +kernel
theorem dX12_one_8 : decode cX12_one 8 = .ok (.aload_n 0, 1) := by decide +kernel
theorem dX12_one_9 : decode cX12_one 9 = .ok (.invokevirtual 126, 3) := by decide +kernel
theorem dX12_one_12 : decode cX12_one 12 = .ok (.aload_n 0, 1) := by decide +kernel
theorem dX12_one_13 : decode cX12_one 13 = .ok (.bipush 12, 2) := by decide +kernel
theorem dX12_one_15 : decode cX12_one 15 = .ok (.iconst 5, 1) := by decide +kernel
theorem dX12_one_16 : decode cX12_one 16 = .ok (.iconst 1, 1) := by decide +kernel
theorem dX12_one_17 : decode cX12_one 17 = .ok (.bipush 19, 2) := by decide +kernel
theorem dX12_one_19 : decode cX12_one 19 = .ok (.bipush 20, 2) := by decide +kernel
theorem dX12_one_21 : decode cX12_one 21 = .ok (.iconst 0, 1) := by decide +kernel
theorem dX12_one_22 : decode cX12_one 22 = .ok (.invokevirtual 153, 3) := by decide +kernel
theorem dX12_one_25 : decode cX12_one 25 = .ok (.ifCond .eq 8, 3) := by decide +kernel
theorem dX12_one_28 : decode cX12_one 28 = .ok (.bipush 7, 2) := by decide +kernel
theorem dX12_one_30 : decode cX12_one 30 = .ok (.goto 26, 3) := by decide +kernel
theorem dX12_one_33 : decode cX12_one 33 = .ok (.aload_n 0, 1) := by decide +kernel
theorem dX12_one_34 : decode cX12_one 34 = .ok (.bipush 13, 2) := by decide +kernel
theorem dX12_one_36 : decode cX12_one 36 = .ok (.bipush 15, 2) := by decide +kernel
theorem dX12_one_38 : decode cX12_one 38 = .ok (.bipush 19, 2) := by decide +kernel
theorem dX12_one_40 : decode cX12_one 40 = .ok (.bipush 20, 2) := by decide +kernel
theorem dX12_one_42 : decode cX12_one 42 = .ok (.iconst 0, 1) := by decide +kernel
theorem dX12_one_43 : decode cX12_one 43 = .ok (.iconst 0, 1) := by decide +kernel
theorem dX12_one_44 : decode cX12_one 44 = .ok (.invokevirtual 153, 3) := by decide +kernel
theorem dX12_one_47 : decode cX12_one 47 = .ok (.ifCond .eq 8, 3) := by decide +kernel
theorem dX12_one_50 : decode cX12_one 50 = .ok (.bipush 8, 2) := by decide +kernel
theorem dX12_one_52 : decode cX12_one 52 = .ok (.goto 4, 3) := by decide +kernel
theorem dX12_one_55 : decode cX12_one 55 = .ok (.iconst (-1), 1) := by decide +kernel
theorem dX12_one_56 : decode cX12_one 56 = .ok (.istore_n 1, 1) := by decide +kernel
theorem dX12_one_57 : decode cX12_one 57 = .ok (.iload_n 1, 1) := by decide +kernel
theorem dX12_one_58 : decode cX12_one 58 = .ok (.iconst (-1), 1) := by decide +kernel
theorem dX12_one_59 : decode cX12_one 59 = .ok (.if_icmp .eq 58, 3) := by decide +kernel
theorem dX12_one_62 : decode cX12_one 62 = .ok (.aload_n 0, 1) := by decide +kernel
theorem dX12_one_63 : decode cX12_one 63 = .ok (.invokevirtual 237, 3) := by decide +kernel
theorem dX12_one_66 : decode cX12_one 66 = .ok (.ifCond .ne 4, 3) := by decide +kernel
theorem dX12_one_69 : decode cX12_one 69 = .ok (.return_, 1) := by decide +kernel
theorem dX12_one_70 : decode cX12_one 70 = .ok (.aload_n 0, 1) := by decide +kernel
theorem dX12_one_71 : decode cX12_one 71 = .ok (.invokevirtual 157, 3) := by decide +kernel
theorem dX12_one_74 : decode cX12_one 74 = .ok (.aload_n 0, 1) := by decide +kernel
theorem dX12_one_75 : decode cX12_one 75 = .ok (.bipush 91, 2) := by decide +kernel
theorem dX12_one_77 : decode cX12_one 77 = .ok (.invokevirtual 179, 3) := by decide +kernel
theorem dX12_one_80 : decode cX12_one 80 = .ok (.aload_n 0, 1) := by decide +kernel
theorem dX12_one_81 : decode cX12_one 81 = .ok (.invokevirtual 241, 3) := by decide +kernel
theorem dX12_one_84 : decode cX12_one 84 = .ok (.aload_n 0, 1) := by decide +kernel
theorem dX12_one_85 : decode cX12_one 85 = .ok (.bipush 44, 2) := by decide +kernel
theorem dX12_one_87 : decode cX12_one 87 = .ok (.invokevirtual 179, 3) := by decide +kernel
theorem dX12_one_90 : decode cX12_one 90 = .ok (.aload_n 0, 1) := by decide +kernel
theorem dX12_one_91 : decode cX12_one 91 = .ok (.invokevirtual 241, 3) := by decide +kernel
theorem dX12_one_94 : decode cX12_one 94 = .ok (.aload_n 0, 1) := by decide +kernel
theorem dX12_one_95 : decode cX12_one 95 = .ok (.bipush 93, 2) := by decide +kernel
theorem dX12_one_97 : decode cX12_one 97 = .ok (.invokevirtual 179, 3) := by decide +kernel
theorem dX12_one_100 : decode cX12_one 100 = .ok (.aload_n 0, 1) := by decide +kernel
theorem dX12_one_101 : decode cX12_one 101 = .ok (.iload_n 1, 1) := by decide +kernel
theorem dX12_one_102 : decode cX12_one 102 = .ok (.iconst 0, 1) := by decide +kernel
theorem dX12_one_103 : decode cX12_one 103 = .ok (.invokevirtual 228, 3) := by decide +kernel
theorem dX12_one_106 : decode cX12_one 106 = .ok (.aload_n 0, 1) := by decide +kernel
theorem dX12_one_107 : decode cX12_one 107 = .ok (.dup, 1) := by decide +kernel
theorem dX12_one_108 : decode cX12_one 108 = .ok (.getfield 163, 3) := by decide +kernel
theorem dX12_one_111 : decode cX12_one 111 = .ok (.iconst 1, 1) := by decide +kernel
theorem dX12_one_112 : decode cX12_one 112 = .ok (.isub, 1) := by decide +kernel
theorem dX12_one_113 : decode cX12_one 113 = .ok (.putfield 163, 3) := by decide +kernel
theorem dX12_one_116 : decode cX12_one 116 = .ok (.return_, 1) := by decide +kernel
theorem dX12_one_117 : decode cX12_one 117 = .ok (.aload_n 0, 1) := by decide +kernel
theorem dX12_one_118 : decode cX12_one 118 = .ok (.aload_n 0, 1) := by decide +kernel
theorem dX12_one_119 : decode cX12_one 119 = .ok (.getfield 113, 3) := by decide +kernel
theorem dX12_one_122 : decode cX12_one 122 = .ok (.invokevirtual 116, 3) := by decide +kernel
theorem dX12_one_125 : decode cX12_one 125 = .ok (.bipush 40, 2) := by decide +kernel
theorem dX12_one_127 : decode cX12_one 127 = .ok (.if_icmp .ne 42, 3) := by decide +kernel
theorem dX12_one_130 : decode cX12_one 130 = .ok (.aload_n 0, 1) := by decide +kernel
theorem dX12_one_131 : decode cX12_one 131 = .ok (.invokevirtual 237, 3) := by decide +kernel
theorem dX12_one_134 : decode cX12_one 134 = .ok (.ifCond .ne 4, 3) := by decide +kernel
theorem dX12_one_137 : decode cX12_one 137 = .ok (.return_, 1) := by decide +kernel
theorem dX12_one_138 : decode cX12_one 138 = .ok (.aload_n 0, 1) := by decide +kernel
theorem dX12_one_139 : decode cX12_one 139 = .ok (.dup, 1) := by decide +kernel
theorem dX12_one_140 : decode cX12_one 140 = .ok (.getfield 113, 3) := by decide +kernel
theorem dX12_one_143 : decode cX12_one 143 = .ok (.iconst 1, 1) := by decide +kernel
theorem dX12_one_144 : decode cX12_one 144 = .ok (.iadd, 1) := by decide +kernel
theorem dX12_one_145 : decode cX12_one 145 = .ok (.putfield 113, 3) := by decide +kernel
theorem dX12_one_148 : decode cX12_one 148 = .ok (.aload_n 0, 1) := by decide +kernel
theorem dX12_one_149 : decode cX12_one 149 = .ok (.invokevirtual 241, 3) := by decide +kernel
theorem dX12_one_152 : decode cX12_one 152 = .ok (.aload_n 0, 1) := by decide +kernel
theorem dX12_one_153 : decode cX12_one 153 = .ok (.bipush 41, 2) := by decide +kernel
theorem dX12_one_155 : decode cX12_one 155 = .ok (.invokevirtual 179, 3) := by decide +kernel
theorem dX12_one_158 : decode cX12_one 158 = .ok (.aload_n 0, 1) := by decide +kernel
theorem dX12_one_159 : decode cX12_one 159 = .ok (.dup, 1) := by decide +kernel
theorem dX12_one_160 : decode cX12_one 160 = .ok (.getfield 163, 3) := by decide +kernel
theorem dX12_one_163 : decode cX12_one 163 = .ok (.iconst 1, 1) := by decide +kernel
theorem dX12_one_164 : decode cX12_one 164 = .ok (.isub, 1) := by decide +kernel
theorem dX12_one_165 : decode cX12_one 165 = .ok (.putfield 163, 3) := by decide +kernel
theorem dX12_one_168 : decode cX12_one 168 = .ok (.return_, 1) := by decide +kernel
theorem dX12_one_169 : decode cX12_one 169 = .ok (.aload_n 0, 1) := by decide +kernel
theorem dX12_one_170 : decode cX12_one 170 = .ok (.invokevirtual 244, 3) := by decide +kernel
theorem dX12_one_173 : decode cX12_one 173 = .ok (.istore_n 2, 1) := by decide +kernel
theorem dX12_one_174 : decode cX12_one 174 = .ok (.iload_n 2, 1) := by decide +kernel
theorem dX12_one_175 : decode cX12_one 175 = .ok (.iconst (-1), 1) := by decide +kernel
theorem dX12_one_176 : decode cX12_one 176 = .ok (.if_icmp .eq 12, 3) := by decide +kernel
theorem dX12_one_179 : decode cX12_one 179 = .ok (.aload_n 0, 1) := by decide +kernel
theorem dX12_one_180 : decode cX12_one 180 = .ok (.iconst 1, 1) := by decide +kernel
theorem dX12_one_181 : decode cX12_one 181 = .ok (.iload_n 2, 1) := by decide +kernel
theorem dX12_one_182 : decode cX12_one 182 = .ok (.invokevirtual 228, 3) := by decide +kernel
theorem dX12_one_185 : decode cX12_one 185 = .ok (.goto 16, 3) := by decide +kernel
theorem dX12_one_188 : decode cX12_one 188 = .ok (.aload_n 0, 1) := by decide +kernel
theorem dX12_one_189 : decode cX12_one 189 = .ok (.iconst 0, 1) := by decide +kernel
theorem dX12_one_190 : decode cX12_one 190 = .ok (.aload_n 0, 1) := by decide +kernel
theorem dX12_one_191 : decode cX12_one 191 = .ok (.iconst 0, 1) := by decide +kernel
theorem dX12_one_192 : decode cX12_one 192 = .ok (.sipush 999, 3) := by decide +kernel
theorem dX12_one_195 : decode cX12_one 195 = .ok (.invokevirtual 166, 3) := by decide +kernel
theorem dX12_one_198 : decode cX12_one 198 = .ok (.invokevirtual 228, 3) := by decide +kernel
theorem dX12_one_201 : decode cX12_one 201 = .ok (.return_, 1) := by decide +kernel
theorem dX12_law_0 : decode cX12_law 0 = .ok (.aload_n 0, 1) := by decide +kernel
theorem dX12_law_1 : decode cX12_law 1 = .ok (.iconst 0, 1) := by decide +kernel
theorem dX12_law_2 : decode cX12_law 2 = .ok (.putfield 104, 3) := by decide +kernel
theorem dX12_law_5 : decode cX12_law 5 = .ok (.aload_n 0, 1) := by decide +kernel
theorem dX12_law_6 : decode cX12_law 6 = .ok (.iload_n 1, 1) := by decide +kernel
theorem dX12_law_7 : decode cX12_law 7 = .ok (.iconst 0, 1) := by decide +kernel
theorem dX12_law_8 : decode cX12_law 8 = .ok (.aload_n 0, 1) := by decide +kernel
theorem dX12_law_9 : decode cX12_law 9 = .ok (.getfield 107, 3) := by decide +kernel
theorem dX12_law_12 : decode cX12_law 12 = .ok (.invokestatic 138, 3) := by decide +kernel
theorem dX12_law_15 : decode cX12_law 15 = .ok (.ifCond .eq 10, 3) := by decide +kernel
theorem dX12_law_18 : decode cX12_law 18 = .ok (.iload_n 1, 1) := by decide +kernel
theorem dX12_law_19 : decode cX12_law 19 = .ok (.sipush 150, 3) := by decide +kernel
theorem dX12_law_22 : decode cX12_law 22 = .ok (.if_icmp .le 7, 3) := by decide +kernel
theorem dX12_law_25 : decode cX12_law 25 = .ok (.iconst 1, 1) := by decide +kernel
theorem dX12_law_26 : decode cX12_law 26 = .ok (.goto 4, 3) := by decide +kernel
theorem dX12_law_29 : decode cX12_law 29 = .ok (.iconst 0, 1) := by decide +kernel
theorem dX12_law_30 : decode cX12_law 30 = .ok (.iconst 1, 1) := by decide +kernel
theorem dX12_law_31 : decode cX12_law 31 = .ok (.iconst 1, 1) := by decide +kernel
theorem dX12_law_32 : decode cX12_law 32 = .ok (.invokevirtual 183, 3) := by decide +kernel
theorem dX12_law_35 : decode cX12_law 35 = .ok (.ifCond .eq 5, 3) := by decide +kernel
theorem dX12_law_38 : decode cX12_law 38 = .ok (.iconst 0, 1) := by decide +kernel
theorem dX12_law_39 : decode cX12_law 39 = .ok (.ireturn, 1) := by decide +kernel
theorem dX12_law_40 : decode cX12_law 40 = .ok (.aload_n 0, 1) := by decide +kernel
theorem dX12_law_41 : decode cX12_law 41 = .ok (.iload_n 1, 1) := by decide +kernel
theorem dX12_law_42 : decode cX12_law 42 = .ok (.invokevirtual 187, 3) := by decide +kernel
theorem dX12_law_45 : decode cX12_law 45 = .ok (.aload_n 0, 1) := by decide +kernel
theorem dX12_law_46 : decode cX12_law 46 = .ok (.iconst 0, 1) := by decide +kernel
theorem dX12_law_47 : decode cX12_law 47 = .ok (.putfield 219, 3) := by decide +kernel
theorem dX12_law_50 : decode cX12_law 50 = .ok (.aload_n 0, 1) := by decide +kernel
theorem dX12_law_51 : decode cX12_law 51 = .ok (.invokevirtual 241, 3) := by decide +kernel
theorem dX12_law_54 : decode cX12_law 54 = .ok (.aload_n 0, 1) := by decide +kernel
theorem dX12_law_55 : decode cX12_law 55 = .ok (.invokevirtual 126, 3) := by decide +kernel
theorem dX12_law_58 : decode cX12_law 58 = .ok (.aload_n 0, 1) := by decide +kernel
theorem dX12_law_59 : decode cX12_law 59 = .ok (.getfield 120, 3) := by decide +kernel
theorem dX12_law_62 : decode cX12_law 62 = .ok (.ifCond .ne 23, 3) := by decide +kernel
theorem dX12_law_65 : decode cX12_law 65 = .ok (.aload_n 0, 1) := by decide +kernel
theorem dX12_law_66 : decode cX12_law 66 = .ok (.getfield 113, 3) := by decide +kernel
theorem dX12_law_69 : decode cX12_law 69 = .ok (.aload_n 0, 1) := by decide +kernel
theorem dX12_law_70 : decode cX12_law 70 = .ok (.getfield 110, 3) := by decide +kernel
theorem dX12_law_73 : decode cX12_law 73 = .ok (.if_icmp .ge 12, 3) := by decide +kernel
theorem dX12_law_76 : decode cX12_law 76 = .ok (.aload_n 0, 1) := by decide +kernel
theorem dX12_law_77 : decode cX12_law 77 = .ok (.iconst 1, 1) := by decide +kernel
theorem dX12_law_78 : decode cX12_law 78 = .ok (.aload_n 0, 1) := by decide +kernel
theorem dX12_law_79 : decode cX12_law 79 = .ok (.getfield 113, 3) := by decide +kernel
theorem dX12_law_82 : decode cX12_law 82 = .ok (.invokevirtual 133, 3) := by decide +kernel
theorem dX12_law_85 : decode cX12_law 85 = .ok (.aload_n 0, 1) := by decide +kernel
theorem dX12_law_86 : decode cX12_law 86 = .ok (.getfield 120, 3) := by decide +kernel
theorem dX12_law_89 : decode cX12_law 89 = .ok (.ifCond .eq 8, 3) := by decide +kernel
theorem dX12_law_92 : decode cX12_law 92 = .ok (.aload_n 0, 1) := by decide +kernel
theorem dX12_law_93 : decode cX12_law 93 = .ok (.invokevirtual 193, 3) := by decide +kernel
theorem dX12_law_96 : decode cX12_law 96 = .ok (.ireturn, 1) := by decide +kernel
theorem dX12_law_97 : decode cX12_law 97 = .ok (.aload_n 0, 1) := by decide +kernel
theorem dX12_law_98 : decode cX12_law 98 = .ok (.iconst (-1), 1) := by decide +kernel
theorem dX12_law_99 : decode cX12_law 99 = .ok (.putfield 9, 3) := by decide +kernel
theorem dX12_law_102 : decode cX12_law 102 = .ok (.aload_n 0, 1) := by decide +kernel
theorem dX12_law_103 : decode cX12_law 103 = .ok (.aload_n 0, 1) := by decide +kernel
theorem dX12_law_104 : decode cX12_law 104 = .ok (.getfield 219, 3) := by decide +kernel
theorem dX12_law_107 : decode cX12_law 107 = .ok (.putfield 204, 3) := by decide +kernel
theorem dX12_law_110 : decode cX12_law 110 = .ok (.aload_n 0, 1) := by decide +kernel
theorem dX12_law_111 : decode cX12_law 111 = .ok (.getfield 49, 3) := by decide +kernel
theorem dX12_law_114 : decode cX12_law 114 = .ok (.aload_n 0, 1) := by decide +kernel
theorem dX12_law_115 : decode cX12_law 115 = .ok (.getfield 46, 3) := by decide +kernel
theorem dX12_law_118 : decode cX12_law 118 = .ok (.aload_n 0, 1) := by decide +kernel
theorem dX12_law_119 : decode cX12_law 119 = .ok (.getfield 204, 3) := by decide +kernel
theorem dX12_law_122 : decode cX12_law 122 = .ok (.invokestatic 196, 3) := by decide +kernel
theorem dX12_law_125 : decode cX12_law 125 = .ok (.iconst 1, 1) := by decide +kernel
theorem dX12_law_126 : decode cX12_law 126 = .ok (.ireturn, 1) := by decide +kernel
theorem dX12_by_0 : decode cX12_by 0 = .ok (.iload_n 0, 1) := by decide +kernel
theorem dX12_by_1 : decode cX12_by 1 = .ok (.tableswitch 96 2 7 #[39, 43, 47, 51, 73, 90], 39) := by decide +kernel
theorem dX12_by_40 : decode cX12_by 40 = .ok (.iload_n 1, 1) := by decide +kernel
theorem dX12_by_41 : decode cX12_by 41 = .ok (.iload_n 2, 1) := by decide +kernel
theorem dX12_by_42 : decode cX12_by 42 = .ok (.iadd, 1) := by decide +kernel
theorem dX12_by_43 : decode cX12_by 43 = .ok (.ireturn, 1) := by decide +kernel
theorem dX12_by_44 : decode cX12_by 44 = .ok (.iload_n 1, 1) := by decide +kernel
theorem dX12_by_45 : decode cX12_by 45 = .ok (.iload_n 2, 1) := by decide +kernel
theorem dX12_by_46 : decode cX12_by 46 = .ok (.isub, 1) := by decide +kernel
theorem dX12_by_47 : decode cX12_by 47 = .ok (.ireturn, 1) := by decide +kernel
theorem dX12_by_48 : decode cX12_by 48 = .ok (.iload_n 1, 1) := by decide +kernel
theorem dX12_by_49 : decode cX12_by 49 = .ok (.iload_n 2, 1) := by decide +kernel
theorem dX12_by_50 : decode cX12_by 50 = .ok (.imul, 1) := by decide +kernel
theorem dX12_by_51 : decode cX12_by 51 = .ok (.ireturn, 1) := by decide +kernel
theorem dX12_by_52 : decode cX12_by 52 = .ok (.iload_n 2, 1) := by decide +kernel
theorem dX12_by_53 : decode cX12_by 53 = .ok (.ifCond .ne 7, 3) := by decide +kernel
theorem dX12_by_56 : decode cX12_by 56 = .ok (.iconst 0, 1) := by decide +kernel
theorem dX12_by_57 : decode cX12_by 57 = .ok (.goto 16, 3) := by decide +kernel
theorem dX12_by_60 : decode cX12_by 60 = .ok (.iload_n 2, 1) := by decide +kernel
theorem dX12_by_61 : decode cX12_by 61 = .ok (.iconst (-1), 1) := by decide +kernel
theorem dX12_by_62 : decode cX12_by 62 = .ok (.if_icmp .ne 8, 3) := by decide +kernel
theorem dX12_by_65 : decode cX12_by 65 = .ok (.iload_n 1, 1) := by decide +kernel
theorem dX12_by_66 : decode cX12_by 66 = .ok (.ineg, 1) := by decide +kernel
theorem dX12_by_67 : decode cX12_by 67 = .ok (.goto 6, 3) := by decide +kernel
theorem dX12_by_70 : decode cX12_by 70 = .ok (.iload_n 1, 1) := by decide +kernel
theorem dX12_by_71 : decode cX12_by 71 = .ok (.iload_n 2, 1) := by decide +kernel
theorem dX12_by_72 : decode cX12_by 72 = .ok (.idiv, 1) := by decide +kernel
theorem dX12_by_73 : decode cX12_by 73 = .ok (.ireturn, 1) := by decide +kernel
theorem dX12_by_74 : decode cX12_by 74 = .ok (.iload_n 2, 1) := by decide +kernel
theorem dX12_by_75 : decode cX12_by 75 = .ok (.ifCond .eq 8, 3) := by decide +kernel
theorem dX12_by_78 : decode cX12_by 78 = .ok (.iload_n 2, 1) := by decide +kernel
theorem dX12_by_79 : decode cX12_by 79 = .ok (.iconst (-1), 1) := by decide +kernel
theorem dX12_by_80 : decode cX12_by 80 = .ok (.if_icmp .ne 7, 3) := by decide +kernel
theorem dX12_by_83 : decode cX12_by 83 = .ok (.iconst 0, 1) := by decide +kernel
theorem dX12_by_84 : decode cX12_by 84 = .ok (.goto 6, 3) := by decide +kernel
theorem dX12_by_87 : decode cX12_by 87 = .ok (.iload_n 1, 1) := by decide +kernel
theorem dX12_by_88 : decode cX12_by 88 = .ok (.iload_n 2, 1) := by decide +kernel
theorem dX12_by_89 : decode cX12_by 89 = .ok (.irem, 1) := by decide +kernel
theorem dX12_by_90 : decode cX12_by 90 = .ok (.ireturn, 1) := by decide +kernel
theorem dX12_by_91 : decode cX12_by 91 = .ok (.iload_n 1, 1) := by decide +kernel
theorem dX12_by_92 : decode cX12_by 92 = .ok (.iload_n 2, 1) := by decide +kernel
theorem dX12_by_93 : decode cX12_by 93 = .ok (.invokestatic 247, 3) := by decide +kernel
theorem dX12_by_96 : decode cX12_by 96 = .ok (.ireturn, 1) := by decide +kernel
theorem dX12_by_97 : decode cX12_by 97 = .ok (.iload_n 1, 1) := by decide +kernel
theorem dX12_by_98 : decode cX12_by 98 = .ok (.iload_n 2, 1) := by decide +kernel
theorem dX12_by_99 : decode cX12_by 99 = .ok (.invokestatic 250, 3) := by decide +kernel
theorem dX12_by_102 : decode cX12_by 102 = .ok (.ireturn, 1) := by decide +kernel
theorem dX12_byLaw_0 : decode cX12_byLaw 0 = .ok (.iconst 0, 1) := by decide +kernel
theorem dX12_byLaw_1 : decode cX12_byLaw 1 = .ok (.istore_n 1, 1) := by decide +kernel
theorem dX12_byLaw_2 : decode cX12_byLaw 2 = .ok (.aload_n 0, 1) := by decide +kernel
theorem dX12_byLaw_3 : decode cX12_byLaw 3 = .ok (.getfield 58, 3) := by decide +kernel
theorem dX12_byLaw_6 : decode cX12_byLaw 6 = .ok (.iconst 0, 1) := by decide +kernel
theorem dX12_byLaw_7 : decode cX12_byLaw 7 = .ok (.iconst 1, 1) := by decide +kernel
theorem dX12_byLaw_8 : decode cX12_byLaw 8 = .ok (.aload_n 0, 1) := by decide +kernel
theorem dX12_byLaw_9 : decode cX12_byLaw 9 = .ok (.getfield 61, 3) := by decide +kernel
theorem dX12_byLaw_12 : decode cX12_byLaw 12 = .ok (.iconst 0, 1) := by decide +kernel
theorem dX12_byLaw_13 : decode cX12_byLaw 13 = .ok (.iaload, 1) := by decide +kernel
theorem dX12_byLaw_14 : decode cX12_byLaw 14 = .ok (.bipush 10, 2) := by decide +kernel
theorem dX12_byLaw_16 : decode cX12_byLaw 16 = .ok (.idiv, 1) := by decide +kernel
theorem dX12_byLaw_17 : decode cX12_byLaw 17 = .ok (.iadd, 1) := by decide +kernel
theorem dX12_byLaw_18 : decode cX12_byLaw 18 = .ok (.iastore, 1) := by decide +kernel
theorem dX12_byLaw_19 : decode cX12_byLaw 19 = .ok (.iconst 0, 1) := by decide +kernel
theorem dX12_byLaw_20 : decode cX12_byLaw 20 = .ok (.istore_n 2, 1) := by decide +kernel
theorem dX12_byLaw_21 : decode cX12_byLaw 21 = .ok (.iload_n 2, 1) := by decide +kernel
theorem dX12_byLaw_22 : decode cX12_byLaw 22 = .ok (.aload_n 0, 1) := by decide +kernel
theorem dX12_byLaw_23 : decode cX12_byLaw 23 = .ok (.getfield 204, 3) := by decide +kernel
theorem dX12_byLaw_26 : decode cX12_byLaw 26 = .ok (.if_icmp .ge 104, 3) := by decide +kernel
theorem dX12_byLaw_29 : decode cX12_byLaw 29 = .ok (.aload_n 0, 1) := by decide +kernel
theorem dX12_byLaw_30 : decode cX12_byLaw 30 = .ok (.getfield 46, 3) := by decide +kernel
theorem dX12_byLaw_33 : decode cX12_byLaw 33 = .ok (.iload_n 2, 1) := by decide +kernel
theorem dX12_byLaw_34 : decode cX12_byLaw 34 = .ok (.aaload, 1) := by decide +kernel
theorem dX12_byLaw_35 : decode cX12_byLaw 35 = .ok (.iconst 0, 1) := by decide +kernel
theorem dX12_byLaw_36 : decode cX12_byLaw 36 = .ok (.iaload, 1) := by decide +kernel
theorem dX12_byLaw_37 : decode cX12_byLaw 37 = .ok (.iconst 2, 1) := by decide +kernel
theorem dX12_byLaw_38 : decode cX12_byLaw 38 = .ok (.if_icmp .ge 50, 3) := by decide +kernel
theorem dX12_byLaw_41 : decode cX12_byLaw 41 = .ok (.aload_n 0, 1) := by decide +kernel
theorem dX12_byLaw_42 : decode cX12_byLaw 42 = .ok (.getfield 58, 3) := by decide +kernel
theorem dX12_byLaw_45 : decode cX12_byLaw 45 = .ok (.iload_n 1, 1) := by decide +kernel
theorem dX12_byLaw_46 : decode cX12_byLaw 46 = .ok (.aload_n 0, 1) := by decide +kernel
theorem dX12_byLaw_47 : decode cX12_byLaw 47 = .ok (.getfield 46, 3) := by decide +kernel
theorem dX12_byLaw_50 : decode cX12_byLaw 50 = .ok (.iload_n 2, 1) := by decide +kernel
theorem dX12_byLaw_51 : decode cX12_byLaw 51 = .ok (.aaload, 1) := by decide +kernel
theorem dX12_byLaw_52 : decode cX12_byLaw 52 = .ok (.iconst 0, 1) := by decide +kernel
theorem dX12_byLaw_53 : decode cX12_byLaw 53 = .ok (.iaload, 1) := by decide +kernel
theorem dX12_byLaw_54 : decode cX12_byLaw 54 = .ok (.ifCond .ne 14, 3) := by decide +kernel
theorem dX12_byLaw_57 : decode cX12_byLaw 57 = .ok (.aload_n 0, 1) := by decide +kernel
theorem dX12_byLaw_58 : decode cX12_byLaw 58 = .ok (.getfield 46, 3) := by decide +kernel
theorem dX12_byLaw_61 : decode cX12_byLaw 61 = .ok (.iload_n 2, 1) := by decide +kernel
theorem dX12_byLaw_62 : decode cX12_byLaw 62 = .ok (.aaload, 1) := by decide +kernel
theorem dX12_byLaw_63 : decode cX12_byLaw 63 = .ok (.iconst 1, 1) := by decide +kernel
theorem dX12_byLaw_64 : decode cX12_byLaw 64 = .ok (.iaload, 1) := by decide +kernel
theorem dX12_byLaw_65 : decode cX12_byLaw 65 = .ok (.goto 16, 3) := by decide +kernel
theorem dX12_byLaw_68 : decode cX12_byLaw 68 = .ok (.aload_n 0, 1) := by decide +kernel
theorem dX12_byLaw_69 : decode cX12_byLaw 69 = .ok (.getfield 61, 3) := by decide +kernel
theorem dX12_byLaw_72 : decode cX12_byLaw 72 = .ok (.aload_n 0, 1) := by decide +kernel
theorem dX12_byLaw_73 : decode cX12_byLaw 73 = .ok (.getfield 46, 3) := by decide +kernel
theorem dX12_byLaw_76 : decode cX12_byLaw 76 = .ok (.iload_n 2, 1) := by decide +kernel
theorem dX12_byLaw_77 : decode cX12_byLaw 77 = .ok (.aaload, 1) := by decide +kernel
theorem dX12_byLaw_78 : decode cX12_byLaw 78 = .ok (.iconst 1, 1) := by decide +kernel
theorem dX12_byLaw_79 : decode cX12_byLaw 79 = .ok (.iaload, 1) := by decide +kernel
theorem dX12_byLaw_80 : decode cX12_byLaw 80 = .ok (.iaload, 1) := by decide +kernel
theorem dX12_byLaw_81 : decode cX12_byLaw 81 = .ok (.iastore, 1) := by decide +kernel
theorem dX12_byLaw_82 : decode cX12_byLaw 82 = .ok (.iinc 1 1, 3) := by decide +kernel
theorem dX12_byLaw_85 : decode cX12_byLaw 85 = .ok (.goto 39, 3) := by decide +kernel
theorem dX12_byLaw_88 : decode cX12_byLaw 88 = .ok (.iinc 1 (-1), 3) := by decide +kernel
theorem dX12_byLaw_91 : decode cX12_byLaw 91 = .ok (.aload_n 0, 1) := by decide +kernel
theorem dX12_byLaw_92 : decode cX12_byLaw 92 = .ok (.getfield 58, 3) := by decide +kernel
theorem dX12_byLaw_95 : decode cX12_byLaw 95 = .ok (.iload_n 1, 1) := by decide +kernel
theorem dX12_byLaw_96 : decode cX12_byLaw 96 = .ok (.iconst 1, 1) := by decide +kernel
theorem dX12_byLaw_97 : decode cX12_byLaw 97 = .ok (.isub, 1) := by decide +kernel
theorem dX12_byLaw_98 : decode cX12_byLaw 98 = .ok (.aload_n 0, 1) := by decide +kernel
theorem dX12_byLaw_99 : decode cX12_byLaw 99 = .ok (.getfield 46, 3) := by decide +kernel
theorem dX12_byLaw_102 : decode cX12_byLaw 102 = .ok (.iload_n 2, 1) := by decide +kernel
theorem dX12_byLaw_103 : decode cX12_byLaw 103 = .ok (.aaload, 1) := by decide +kernel
theorem dX12_byLaw_104 : decode cX12_byLaw 104 = .ok (.iconst 0, 1) := by decide +kernel
theorem dX12_byLaw_105 : decode cX12_byLaw 105 = .ok (.iaload, 1) := by decide +kernel
theorem dX12_byLaw_106 : decode cX12_byLaw 106 = .ok (.aload_n 0, 1) := by decide +kernel
theorem dX12_byLaw_107 : decode cX12_byLaw 107 = .ok (.getfield 58, 3) := by decide +kernel
theorem dX12_byLaw_110 : decode cX12_byLaw 110 = .ok (.iload_n 1, 1) := by decide +kernel
theorem dX12_byLaw_111 : decode cX12_byLaw 111 = .ok (.iconst 1, 1) := by decide +kernel
theorem dX12_byLaw_112 : decode cX12_byLaw 112 = .ok (.isub, 1) := by decide +kernel
theorem dX12_byLaw_113 : decode cX12_byLaw 113 = .ok (.iaload, 1) := by decide +kernel
theorem dX12_byLaw_114 : decode cX12_byLaw 114 = .ok (.aload_n 0, 1) := by decide +kernel
theorem dX12_byLaw_115 : decode cX12_byLaw 115 = .ok (.getfield 58, 3) := by decide +kernel
theorem dX12_byLaw_118 : decode cX12_byLaw 118 = .ok (.iload_n 1, 1) := by decide +kernel
theorem dX12_byLaw_119 : decode cX12_byLaw 119 = .ok (.iaload, 1) := by decide +kernel
theorem dX12_byLaw_120 : decode cX12_byLaw 120 = .ok (.invokestatic 253, 3) := by decide +kernel
theorem dX12_byLaw_123 : decode cX12_byLaw 123 = .ok (.iastore, 1) := by decide +kernel
theorem dX12_byLaw_124 : decode cX12_byLaw 124 = .ok (.iinc 2 1, 3) := by decide +kernel
theorem dX12_byLaw_127 : decode cX12_byLaw 127 = .ok (.goto (-106), 3) := by decide +kernel
theorem dX12_byLaw_130 : decode cX12_byLaw 130 = .ok (.bipush 20, 2) := by decide +kernel
theorem dX12_byLaw_132 : decode cX12_byLaw 132 = .ok (.iconst 0, 1) := by decide +kernel
theorem dX12_byLaw_133 : decode cX12_byLaw 133 = .ok (.aload_n 0, 1) := by decide +kernel
theorem dX12_byLaw_134 : decode cX12_byLaw 134 = .ok (.getfield 58, 3) := by decide +kernel
theorem dX12_byLaw_137 : decode cX12_byLaw 137 = .ok (.iconst 0, 1) := by decide +kernel
theorem dX12_byLaw_138 : decode cX12_byLaw 138 = .ok (.iaload, 1) := by decide +kernel
theorem dX12_byLaw_139 : decode cX12_byLaw 139 = .ok (.invokestatic 250, 3) := by decide +kernel
theorem dX12_byLaw_142 : decode cX12_byLaw 142 = .ok (.invokestatic 247, 3) := by decide +kernel
theorem dX12_byLaw_145 : decode cX12_byLaw 145 = .ok (.ireturn, 1) := by decide +kernel
theorem dX12_stepHere_0 : decode cX12_stepHere 0 = .ok (.aload_n 0, 1) := by decide +kernel
theorem dX12_stepHere_1 : decode cX12_stepHere 1 = .ok (.iconst 1, 1) := by decide +kernel
theorem dX12_stepHere_2 : decode cX12_stepHere 2 = .ok (.bipush 19, 2) := by decide +kernel
theorem dX12_stepHere_4 : decode cX12_stepHere 4 = .ok (.bipush 11, 2) := by decide +kernel
theorem dX12_stepHere_6 : decode cX12_stepHere 6 = .ok (.iconst 0, 1) := by decide +kernel
theorem dX12_stepHere_7 : decode cX12_stepHere 7 = .ok (.iconst 0, 1) := by decide +kernel
theorem dX12_stepHere_8 : decode cX12_stepHere 8 = .ok (.iconst 0, 1) := by decide +kernel
theorem dX12_stepHere_9 : decode cX12_stepHere 9 = .ok (.invokevirtual 153, 3) := by decide +kernel
theorem dX12_stepHere_12 : decode cX12_stepHere 12 = .ok (.ifCond .eq 5, 3) := by decide +kernel
theorem dX12_stepHere_15 : decode cX12_stepHere 15 = .ok (.iconst 0, 1) := by decide +kernel
theorem dX12_stepHere_16 : decode cX12_stepHere 16 = .ok (.ireturn, 1) := by decide +kernel
theorem dX12_stepHere_17 : decode cX12_stepHere 17 = .ok (.aload_n 0, 1) := by decide +kernel
theorem dX12_stepHere_18 : decode cX12_stepHere 18 = .ok (.iconst 4, 1) := by decide +kernel
theorem dX12_stepHere_19 : decode cX12_stepHere 19 = .ok (.bipush 18, 2) := by decide +kernel
theorem dX12_stepHere_21 : decode cX12_stepHere 21 = .ok (.bipush 9, 2) := by decide +kernel
theorem dX12_stepHere_23 : decode cX12_stepHere 23 = .ok (.bipush 22, 2) := by decide +kernel
theorem dX12_stepHere_25 : decode cX12_stepHere 25 = .ok (.iconst 5, 1) := by decide +kernel
theorem dX12_stepHere_26 : decode cX12_stepHere 26 = .ok (.iconst 0, 1) := by decide +kernel
theorem dX12_stepHere_27 : decode cX12_stepHere 27 = .ok (.invokevirtual 153, 3) := by decide +kernel
theorem dX12_stepHere_30 : decode cX12_stepHere 30 = .ok (.ifCond .eq 5, 3) := by decide +kernel
theorem dX12_stepHere_33 : decode cX12_stepHere 33 = .ok (.iconst 1, 1) := by decide +kernel
theorem dX12_stepHere_34 : decode cX12_stepHere 34 = .ok (.ireturn, 1) := by decide +kernel
theorem dX12_stepHere_35 : decode cX12_stepHere 35 = .ok (.aload_n 0, 1) := by decide +kernel
theorem dX12_stepHere_36 : decode cX12_stepHere 36 = .ok (.bipush 11, 2) := by decide +kernel
theorem dX12_stepHere_38 : decode cX12_stepHere 38 = .ok (.bipush 9, 2) := by decide +kernel
theorem dX12_stepHere_40 : decode cX12_stepHere 40 = .ok (.bipush 12, 2) := by decide +kernel
theorem dX12_stepHere_42 : decode cX12_stepHere 42 = .ok (.bipush 12, 2) := by decide +kernel
theorem dX12_stepHere_44 : decode cX12_stepHere 44 = .ok (.iconst 0, 1) := by decide +kernel
theorem dX12_stepHere_45 : decode cX12_stepHere 45 = .ok (.iconst 0, 1) := by decide +kernel
theorem dX12_stepHere_46 : decode cX12_stepHere 46 = .ok (.invokevirtual 153, 3) := by decide +kernel
theorem dX12_stepHere_49 : decode cX12_stepHere 49 = .ok (.ifCond .eq 5, 3) := by decide +kernel
theorem dX12_stepHere_52 : decode cX12_stepHere 52 = .ok (.iconst 2, 1) := by decide +kernel
theorem dX12_stepHere_53 : decode cX12_stepHere 53 = .ok (.ireturn, 1) := by decide +kernel
theorem dX12_stepHere_54 : decode cX12_stepHere 54 = .ok (.aload_n 0, 1) := by decide +kernel
theorem dX12_stepHere_55 : decode cX12_stepHere 55 = .ok (.invokevirtual 145, 3) := by decide +kernel
theorem dX12_stepHere_58 : decode cX12_stepHere 58 = .ok (.bipush 123, 2) := by decide +kernel
theorem dX12_stepHere_60 : decode cX12_stepHere 60 = .ok (.if_icmp .ne 5, 3) := by decide +kernel
theorem dX12_stepHere_63 : decode cX12_stepHere 63 = .ok (.iconst 3, 1) := by decide +kernel
theorem dX12_stepHere_64 : decode cX12_stepHere 64 = .ok (.ireturn, 1) := by decide +kernel
theorem dX12_stepHere_65 : decode cX12_stepHere 65 = .ok (.aload_n 0, 1) := by decide +kernel
theorem dX12_stepHere_66 : decode cX12_stepHere 66 = .ok (.bipush 8, 2) := by decide +kernel
theorem dX12_stepHere_68 : decode cX12_stepHere 68 = .ok (.iconst 1, 1) := by decide +kernel
theorem dX12_stepHere_69 : decode cX12_stepHere 69 = .ok (.bipush 25, 2) := by decide +kernel
theorem dX12_stepHere_71 : decode cX12_stepHere 71 = .ok (.iconst 0, 1) := by decide +kernel
theorem dX12_stepHere_72 : decode cX12_stepHere 72 = .ok (.iconst 0, 1) := by decide +kernel
theorem dX12_stepHere_73 : decode cX12_stepHere 73 = .ok (.iconst 0, 1) := by decide +kernel
theorem dX12_stepHere_74 : decode cX12_stepHere 74 = .ok (.invokevirtual 153, 3) := by decide +kernel
theorem dX12_stepHere_77 : decode cX12_stepHere 77 = .ok (.ifCond .eq 5, 3) := by decide +kernel
theorem dX12_stepHere_80 : decode cX12_stepHere 80 = .ok (.iconst 4, 1) := by decide +kernel
theorem dX12_stepHere_81 : decode cX12_stepHere 81 = .ok (.ireturn, 1) := by decide +kernel
theorem dX12_stepHere_82 : decode cX12_stepHere 82 = .ok (.aload_n 0, 1) := by decide +kernel
theorem dX12_stepHere_83 : decode cX12_stepHere 83 = .ok (.iconst 4, 1) := by decide +kernel
theorem dX12_stepHere_84 : decode cX12_stepHere 84 = .ok (.iconst 1, 1) := by decide +kernel
theorem dX12_stepHere_85 : decode cX12_stepHere 85 = .ok (.bipush 25, 2) := by decide +kernel
theorem dX12_stepHere_87 : decode cX12_stepHere 87 = .ok (.iconst 0, 1) := by decide +kernel
theorem dX12_stepHere_88 : decode cX12_stepHere 88 = .ok (.iconst 0, 1) := by decide +kernel
theorem dX12_stepHere_89 : decode cX12_stepHere 89 = .ok (.iconst 0, 1) := by decide +kernel
theorem dX12_stepHere_90 : decode cX12_stepHere 90 = .ok (.invokevirtual 153, 3) := by decide +kernel
theorem dX12_stepHere_93 : decode cX12_stepHere 93 = .ok (.ifCond .eq 5, 3) := by decide +kernel
theorem dX12_stepHere_96 : decode cX12_stepHere 96 = .ok (.iconst 5, 1) := by decide +kernel
theorem dX12_stepHere_97 : decode cX12_stepHere 97 = .ok (.ireturn, 1) := by decide +kernel
theorem dX12_stepHere_98 : decode cX12_stepHere 98 = .ok (.aload_n 0, 1) := by decide +kernel
theorem dX12_stepHere_99 : decode cX12_stepHere 99 = .ok (.iconst 1, 1) := by decide +kernel
theorem dX12_stepHere_100 : decode cX12_stepHere 100 = .ok (.bipush 7, 2) := by decide +kernel
theorem dX12_stepHere_102 : decode cX12_stepHere 102 = .ok (.iconst 1, 1) := by decide +kernel
theorem dX12_stepHere_103 : decode cX12_stepHere 103 = .ok (.bipush 9, 2) := by decide +kernel
theorem dX12_stepHere_105 : decode cX12_stepHere 105 = .ok (.bipush 14, 2) := by decide +kernel
theorem dX12_stepHere_107 : decode cX12_stepHere 107 = .ok (.iconst 0, 1) := by decide +kernel
theorem dX12_stepHere_108 : decode cX12_stepHere 108 = .ok (.invokevirtual 153, 3) := by decide +kernel
theorem dX12_stepHere_111 : decode cX12_stepHere 111 = .ok (.ifCond .eq 8, 3) := by decide +kernel
theorem dX12_stepHere_114 : decode cX12_stepHere 114 = .ok (.bipush 6, 2) := by decide +kernel
theorem dX12_stepHere_116 : decode cX12_stepHere 116 = .ok (.goto 4, 3) := by decide +kernel
theorem dX12_stepHere_119 : decode cX12_stepHere 119 = .ok (.iconst (-1), 1) := by decide +kernel
theorem dX12_stepHere_120 : decode cX12_stepHere 120 = .ok (.ireturn, 1) := by decide +kernel
theorem dX12_readsStep_0 : decode cX12_readsStep 0 = .ok (.aload_n 0, 1) := by decide +kernel
theorem dX12_readsStep_1 : decode cX12_readsStep 1 = .ok (.invokevirtual 257, 3) := by decide +kernel
theorem dX12_readsStep_4 : decode cX12_readsStep 4 = .ok (.istore_n 1, 1) := by decide +kernel
theorem dX12_readsStep_5 : decode cX12_readsStep 5 = .ok (.iload_n 1, 1) := by decide +kernel
theorem dX12_readsStep_6 : decode cX12_readsStep 6 = .ok (.iconst (-1), 1) := by decide +kernel
theorem dX12_readsStep_7 : decode cX12_readsStep 7 = .ok (.if_icmp .ne 12, 3) := by decide +kernel
theorem dX12_readsStep_10 : decode cX12_readsStep 10 = .ok (.aload_n 0, 1) := by decide +kernel
theorem dX12_readsStep_11 : decode cX12_readsStep 11 = .ok (.iconst 1, 1) := by decide +kernel
theorem dX12_readsStep_12 : decode cX12_readsStep 12 = .ok (.aload_n 0, 1) := by decide +kernel
theorem dX12_readsStep_13 : decode cX12_readsStep 13 = .ok (.getfield 113, 3) := by decide +kernel
theorem dX12_readsStep_16 : decode cX12_readsStep 16 = .ok (.invokevirtual 133, 3) := by decide +kernel
theorem dX12_readsStep_19 : decode cX12_readsStep 19 = .ok (.iload_n 1, 1) := by decide +kernel
theorem dX12_readsStep_20 : decode cX12_readsStep 20 = .ok (.bipush 6, 2) := by decide +kernel
theorem dX12_readsStep_22 : decode cX12_readsStep 22 = .ok (.if_icmp .ne 11, 3) := by decide +kernel
theorem dX12_readsStep_25 : decode cX12_readsStep 25 = .ok (.aload_n 0, 1) := by decide +kernel
theorem dX12_readsStep_26 : decode cX12_readsStep 26 = .ok (.invokevirtual 237, 3) := by decide +kernel
theorem dX12_readsStep_29 : decode cX12_readsStep 29 = .ok (.ifCond .ne 4, 3) := by decide +kernel
theorem dX12_readsStep_32 : decode cX12_readsStep 32 = .ok (.return_, 1) := by decide +kernel
theorem dX12_readsStep_33 : decode cX12_readsStep 33 = .ok (.aload_n 0, 1) := by decide +kernel
theorem dX12_readsStep_34 : decode cX12_readsStep 34 = .ok (.getfield 120, 3) := by decide +kernel
theorem dX12_readsStep_37 : decode cX12_readsStep 37 = .ok (.ifCond .eq 4, 3) := by decide +kernel
theorem dX12_readsStep_40 : decode cX12_readsStep 40 = .ok (.return_, 1) := by decide +kernel
theorem dX12_readsStep_41 : decode cX12_readsStep 41 = .ok (.aload_n 0, 1) := by decide +kernel
theorem dX12_readsStep_42 : decode cX12_readsStep 42 = .ok (.invokevirtual 157, 3) := by decide +kernel
theorem dX12_readsStep_45 : decode cX12_readsStep 45 = .ok (.aload_n 0, 1) := by decide +kernel
theorem dX12_readsStep_46 : decode cX12_readsStep 46 = .ok (.getfield 64, 3) := by decide +kernel
theorem dX12_readsStep_49 : decode cX12_readsStep 49 = .ok (.aload_n 0, 1) := by decide +kernel
theorem dX12_readsStep_50 : decode cX12_readsStep 50 = .ok (.getfield 260, 3) := by decide +kernel
theorem dX12_readsStep_53 : decode cX12_readsStep 53 = .ok (.aaload, 1) := by decide +kernel
theorem dX12_readsStep_54 : decode cX12_readsStep 54 = .ok (.astore_n 2, 1) := by decide +kernel
theorem dX12_readsStep_55 : decode cX12_readsStep 55 = .ok (.aload_n 0, 1) := by decide +kernel
theorem dX12_readsStep_56 : decode cX12_readsStep 56 = .ok (.dup, 1) := by decide +kernel
theorem dX12_readsStep_57 : decode cX12_readsStep 57 = .ok (.getfield 260, 3) := by decide +kernel
theorem dX12_readsStep_60 : decode cX12_readsStep 60 = .ok (.iconst 1, 1) := by decide +kernel
theorem dX12_readsStep_61 : decode cX12_readsStep 61 = .ok (.iadd, 1) := by decide +kernel
theorem dX12_readsStep_62 : decode cX12_readsStep 62 = .ok (.putfield 260, 3) := by decide +kernel
theorem dX12_readsStep_65 : decode cX12_readsStep 65 = .ok (.aload_n 2, 1) := by decide +kernel
theorem dX12_readsStep_66 : decode cX12_readsStep 66 = .ok (.iconst 0, 1) := by decide +kernel
theorem dX12_readsStep_67 : decode cX12_readsStep 67 = .ok (.iload_n 1, 1) := by decide +kernel
theorem dX12_readsStep_68 : decode cX12_readsStep 68 = .ok (.iastore, 1) := by decide +kernel
theorem dX12_readsStep_69 : decode cX12_readsStep 69 = .ok (.iload_n 1, 1) := by decide +kernel
theorem dX12_readsStep_70 : decode cX12_readsStep 70 = .ok (.iconst 4, 1) := by decide +kernel
theorem dX12_readsStep_71 : decode cX12_readsStep 71 = .ok (.if_icmp .ge 19, 3) := by decide +kernel
theorem dX12_readsStep_74 : decode cX12_readsStep 74 = .ok (.aload_n 2, 1) := by decide +kernel
theorem dX12_readsStep_75 : decode cX12_readsStep 75 = .ok (.iconst 1, 1) := by decide +kernel
theorem dX12_readsStep_76 : decode cX12_readsStep 76 = .ok (.aload_n 0, 1) := by decide +kernel
theorem dX12_readsStep_77 : decode cX12_readsStep 77 = .ok (.iconst 0, 1) := by decide +kernel
theorem dX12_readsStep_78 : decode cX12_readsStep 78 = .ok (.aload_n 0, 1) := by decide +kernel
theorem dX12_readsStep_79 : decode cX12_readsStep 79 = .ok (.getfield 23, 3) := by decide +kernel
theorem dX12_readsStep_82 : decode cX12_readsStep 82 = .ok (.iconst 1, 1) := by decide +kernel
theorem dX12_readsStep_83 : decode cX12_readsStep 83 = .ok (.iaload, 1) := by decide +kernel
theorem dX12_readsStep_84 : decode cX12_readsStep 84 = .ok (.iconst 1, 1) := by decide +kernel
theorem dX12_readsStep_85 : decode cX12_readsStep 85 = .ok (.isub, 1) := by decide +kernel
theorem dX12_readsStep_86 : decode cX12_readsStep 86 = .ok (.invokevirtual 166, 3) := by decide +kernel
theorem dX12_readsStep_89 : decode cX12_readsStep 89 = .ok (.iastore, 1) := by decide +kernel
theorem dX12_readsStep_90 : decode cX12_readsStep 90 = .ok (.iload_n 1, 1) := by decide +kernel
theorem dX12_readsStep_91 : decode cX12_readsStep 91 = .ok (.iconst 1, 1) := by decide +kernel
theorem dX12_readsStep_92 : decode cX12_readsStep 92 = .ok (.if_icmp .ne 19, 3) := by decide +kernel
theorem dX12_readsStep_95 : decode cX12_readsStep 95 = .ok (.aload_n 2, 1) := by decide +kernel
theorem dX12_readsStep_96 : decode cX12_readsStep 96 = .ok (.iconst 2, 1) := by decide +kernel
theorem dX12_readsStep_97 : decode cX12_readsStep 97 = .ok (.aload_n 0, 1) := by decide +kernel
theorem dX12_readsStep_98 : decode cX12_readsStep 98 = .ok (.iconst 0, 1) := by decide +kernel
theorem dX12_readsStep_99 : decode cX12_readsStep 99 = .ok (.aload_n 0, 1) := by decide +kernel
theorem dX12_readsStep_100 : decode cX12_readsStep 100 = .ok (.getfield 23, 3) := by decide +kernel
theorem dX12_readsStep_103 : decode cX12_readsStep 103 = .ok (.iconst 0, 1) := by decide +kernel
theorem dX12_readsStep_104 : decode cX12_readsStep 104 = .ok (.iaload, 1) := by decide +kernel
theorem dX12_readsStep_105 : decode cX12_readsStep 105 = .ok (.iconst 1, 1) := by decide +kernel
theorem dX12_readsStep_106 : decode cX12_readsStep 106 = .ok (.isub, 1) := by decide +kernel
theorem dX12_readsStep_107 : decode cX12_readsStep 107 = .ok (.invokevirtual 166, 3) := by decide +kernel
theorem dX12_readsStep_110 : decode cX12_readsStep 110 = .ok (.iastore, 1) := by decide +kernel
theorem dX12_readsStep_111 : decode cX12_readsStep 111 = .ok (.iload_n 1, 1) := by decide +kernel
theorem dX12_readsStep_112 : decode cX12_readsStep 112 = .ok (.iconst 4, 1) := by decide +kernel
theorem dX12_readsStep_113 : decode cX12_readsStep 113 = .ok (.if_icmp .ne 29, 3) := by decide +kernel
theorem dX12_readsStep_116 : decode cX12_readsStep 116 = .ok (.aload_n 2, 1) := by decide +kernel
theorem dX12_readsStep_117 : decode cX12_readsStep 117 = .ok (.iconst 1, 1) := by decide +kernel
theorem dX12_readsStep_118 : decode cX12_readsStep 118 = .ok (.aload_n 0, 1) := by decide +kernel
theorem dX12_readsStep_119 : decode cX12_readsStep 119 = .ok (.iconst 0, 1) := by decide +kernel
theorem dX12_readsStep_120 : decode cX12_readsStep 120 = .ok (.aload_n 0, 1) := by decide +kernel
theorem dX12_readsStep_121 : decode cX12_readsStep 121 = .ok (.getfield 23, 3) := by decide +kernel
theorem dX12_readsStep_124 : decode cX12_readsStep 124 = .ok (.iconst 0, 1) := by decide +kernel
theorem dX12_readsStep_125 : decode cX12_readsStep 125 = .ok (.iaload, 1) := by decide +kernel
theorem dX12_readsStep_126 : decode cX12_readsStep 126 = .ok (.iconst 1, 1) := by decide +kernel
theorem dX12_readsStep_127 : decode cX12_readsStep 127 = .ok (.isub, 1) := by decide +kernel
theorem dX12_readsStep_128 : decode cX12_readsStep 128 = .ok (.invokevirtual 166, 3) := by decide +kernel
theorem dX12_readsStep_131 : decode cX12_readsStep 131 = .ok (.iastore, 1) := by decide +kernel
theorem dX12_readsStep_132 : decode cX12_readsStep 132 = .ok (.aload_n 2, 1) := by decide +kernel
theorem dX12_readsStep_133 : decode cX12_readsStep 133 = .ok (.iconst 2, 1) := by decide +kernel
theorem dX12_readsStep_134 : decode cX12_readsStep 134 = .ok (.aload_n 0, 1) := by decide +kernel
theorem dX12_readsStep_135 : decode cX12_readsStep 135 = .ok (.iconst 1, 1) := by decide +kernel
theorem dX12_readsStep_136 : decode cX12_readsStep 136 = .ok (.bipush 60, 2) := by decide +kernel
theorem dX12_readsStep_138 : decode cX12_readsStep 138 = .ok (.invokevirtual 166, 3) := by decide +kernel
theorem dX12_readsStep_141 : decode cX12_readsStep 141 = .ok (.iastore, 1) := by decide +kernel
theorem dX12_readsStep_142 : decode cX12_readsStep 142 = .ok (.iload_n 1, 1) := by decide +kernel
theorem dX12_readsStep_143 : decode cX12_readsStep 143 = .ok (.bipush 6, 2) := by decide +kernel
theorem dX12_readsStep_145 : decode cX12_readsStep 145 = .ok (.if_icmp .ne 70, 3) := by decide +kernel
theorem dX12_readsStep_148 : decode cX12_readsStep 148 = .ok (.aload_n 2, 1) := by decide +kernel
theorem dX12_readsStep_149 : decode cX12_readsStep 149 = .ok (.iconst 1, 1) := by decide +kernel
theorem dX12_readsStep_150 : decode cX12_readsStep 150 = .ok (.aload_n 0, 1) := by decide +kernel
theorem dX12_readsStep_151 : decode cX12_readsStep 151 = .ok (.iconst 0, 1) := by decide +kernel
theorem dX12_readsStep_152 : decode cX12_readsStep 152 = .ok (.bipush 60, 2) := by decide +kernel
theorem dX12_readsStep_154 : decode cX12_readsStep 154 = .ok (.invokevirtual 166, 3) := by decide +kernel
theorem dX12_readsStep_157 : decode cX12_readsStep 157 = .ok (.iastore, 1) := by decide +kernel
theorem dX12_readsStep_158 : decode cX12_readsStep 158 = .ok (.aload_n 0, 1) := by decide +kernel
theorem dX12_readsStep_159 : decode cX12_readsStep 159 = .ok (.bipush 91, 2) := by decide +kernel
theorem dX12_readsStep_161 : decode cX12_readsStep 161 = .ok (.invokevirtual 179, 3) := by decide +kernel
theorem dX12_readsStep_164 : decode cX12_readsStep 164 = .ok (.aload_n 0, 1) := by decide +kernel
theorem dX12_readsStep_165 : decode cX12_readsStep 165 = .ok (.invokevirtual 126, 3) := by decide +kernel
theorem dX12_readsStep_168 : decode cX12_readsStep 168 = .ok (.aload_n 0, 1) := by decide +kernel
theorem dX12_readsStep_169 : decode cX12_readsStep 169 = .ok (.getfield 120, 3) := by decide +kernel
theorem dX12_readsStep_172 : decode cX12_readsStep 172 = .ok (.ifCond .ne 27, 3) := by decide +kernel
theorem dX12_readsStep_175 : decode cX12_readsStep 175 = .ok (.aload_n 0, 1) := by decide +kernel
theorem dX12_readsStep_176 : decode cX12_readsStep 176 = .ok (.aload_n 0, 1) := by decide +kernel
theorem dX12_readsStep_177 : decode cX12_readsStep 177 = .ok (.getfield 113, 3) := by decide +kernel
theorem dX12_readsStep_180 : decode cX12_readsStep 180 = .ok (.invokevirtual 116, 3) := by decide +kernel
theorem dX12_readsStep_183 : decode cX12_readsStep 183 = .ok (.bipush 93, 2) := by decide +kernel
theorem dX12_readsStep_185 : decode cX12_readsStep 185 = .ok (.if_icmp .eq 14, 3) := by decide +kernel
theorem dX12_readsStep_188 : decode cX12_readsStep 188 = .ok (.aload_n 0, 1) := by decide +kernel
theorem dX12_readsStep_189 : decode cX12_readsStep 189 = .ok (.invokevirtual 263, 3) := by decide +kernel
theorem dX12_readsStep_192 : decode cX12_readsStep 192 = .ok (.aload_n 0, 1) := by decide +kernel
theorem dX12_readsStep_193 : decode cX12_readsStep 193 = .ok (.invokevirtual 126, 3) := by decide +kernel
theorem dX12_readsStep_196 : decode cX12_readsStep 196 = .ok (.goto (-28), 3) := by decide +kernel
theorem dX12_readsStep_199 : decode cX12_readsStep 199 = .ok (.aload_n 0, 1) := by decide +kernel
theorem dX12_readsStep_200 : decode cX12_readsStep 200 = .ok (.bipush 93, 2) := by decide +kernel
theorem dX12_readsStep_202 : decode cX12_readsStep 202 = .ok (.invokevirtual 179, 3) := by decide +kernel
theorem dX12_readsStep_205 : decode cX12_readsStep 205 = .ok (.aload_n 0, 1) := by decide +kernel
theorem dX12_readsStep_206 : decode cX12_readsStep 206 = .ok (.dup, 1) := by decide +kernel
theorem dX12_readsStep_207 : decode cX12_readsStep 207 = .ok (.getfield 163, 3) := by decide +kernel
theorem dX12_readsStep_210 : decode cX12_readsStep 210 = .ok (.iconst 1, 1) := by decide +kernel
theorem dX12_readsStep_211 : decode cX12_readsStep 211 = .ok (.isub, 1) := by decide +kernel
theorem dX12_readsStep_212 : decode cX12_readsStep 212 = .ok (.putfield 163, 3) := by decide +kernel
theorem dX12_readsStep_215 : decode cX12_readsStep 215 = .ok (.aload_n 2, 1) := by decide +kernel
theorem dX12_readsStep_216 : decode cX12_readsStep 216 = .ok (.iconst 3, 1) := by decide +kernel
theorem dX12_readsStep_217 : decode cX12_readsStep 217 = .ok (.aload_n 0, 1) := by decide +kernel
theorem dX12_readsStep_218 : decode cX12_readsStep 218 = .ok (.getfield 260, 3) := by decide +kernel
theorem dX12_readsStep_221 : decode cX12_readsStep 221 = .ok (.iastore, 1) := by decide +kernel
theorem dX12_readsStep_222 : decode cX12_readsStep 222 = .ok (.aload_n 0, 1) := by decide +kernel
theorem dX12_readsStep_223 : decode cX12_readsStep 223 = .ok (.bipush 59, 2) := by decide +kernel
theorem dX12_readsStep_225 : decode cX12_readsStep 225 = .ok (.invokevirtual 179, 3) := by decide +kernel
theorem dX12_readsStep_228 : decode cX12_readsStep 228 = .ok (.return_, 1) := by decide +kernel
theorem dX12_book_0 : decode cX12_book 0 = .ok (.aload_n 0, 1) := by decide +kernel
theorem dX12_book_1 : decode cX12_book 1 = .ok (.iconst 0, 1) := by decide +kernel
theorem dX12_book_2 : decode cX12_book 2 = .ok (.putfield 104, 3) := by decide +kernel
theorem dX12_book_5 : decode cX12_book 5 = .ok (.aload_n 0, 1) := by decide +kernel
theorem dX12_book_6 : decode cX12_book 6 = .ok (.iload_n 1, 1) := by decide +kernel
theorem dX12_book_7 : decode cX12_book 7 = .ok (.iconst 0, 1) := by decide +kernel
theorem dX12_book_8 : decode cX12_book 8 = .ok (.aload_n 0, 1) := by decide +kernel
theorem dX12_book_9 : decode cX12_book 9 = .ok (.getfield 107, 3) := by decide +kernel
theorem dX12_book_12 : decode cX12_book 12 = .ok (.invokestatic 138, 3) := by decide +kernel
theorem dX12_book_15 : decode cX12_book 15 = .ok (.ifCond .eq 9, 3) := by decide +kernel
theorem dX12_book_18 : decode cX12_book 18 = .ok (.iload_n 1, 1) := by decide +kernel
theorem dX12_book_19 : decode cX12_book 19 = .ok (.bipush 60, 2) := by decide +kernel
theorem dX12_book_21 : decode cX12_book 21 = .ok (.if_icmp .le 7, 3) := by decide +kernel
theorem dX12_book_24 : decode cX12_book 24 = .ok (.iconst 1, 1) := by decide +kernel
theorem dX12_book_25 : decode cX12_book 25 = .ok (.goto 4, 3) := by decide +kernel
theorem dX12_book_28 : decode cX12_book 28 = .ok (.iconst 0, 1) := by decide +kernel
theorem dX12_book_29 : decode cX12_book 29 = .ok (.iconst 1, 1) := by decide +kernel
theorem dX12_book_30 : decode cX12_book 30 = .ok (.iconst 1, 1) := by decide +kernel
theorem dX12_book_31 : decode cX12_book 31 = .ok (.invokevirtual 183, 3) := by decide +kernel
theorem dX12_book_34 : decode cX12_book 34 = .ok (.ifCond .eq 5, 3) := by decide +kernel
theorem dX12_book_37 : decode cX12_book 37 = .ok (.iconst 0, 1) := by decide +kernel
theorem dX12_book_38 : decode cX12_book 38 = .ok (.ireturn, 1) := by decide +kernel
theorem dX12_book_39 : decode cX12_book 39 = .ok (.aload_n 0, 1) := by decide +kernel
theorem dX12_book_40 : decode cX12_book 40 = .ok (.iload_n 1, 1) := by decide +kernel
theorem dX12_book_41 : decode cX12_book 41 = .ok (.invokevirtual 187, 3) := by decide +kernel
theorem dX12_book_44 : decode cX12_book 44 = .ok (.iconst 0, 1) := by decide +kernel
theorem dX12_book_45 : decode cX12_book 45 = .ok (.istore_n 2, 1) := by decide +kernel
theorem dX12_book_46 : decode cX12_book 46 = .ok (.iconst 0, 1) := by decide +kernel
theorem dX12_book_47 : decode cX12_book 47 = .ok (.istore_n 3, 1) := by decide +kernel
theorem dX12_book_48 : decode cX12_book 48 = .ok (.aload_n 0, 1) := by decide +kernel
theorem dX12_book_49 : decode cX12_book 49 = .ok (.getfield 120, 3) := by decide +kernel
theorem dX12_book_52 : decode cX12_book 52 = .ok (.ifCond .ne 131, 3) := by decide +kernel
theorem dX12_book_55 : decode cX12_book 55 = .ok (.aload_n 0, 1) := by decide +kernel
theorem dX12_book_56 : decode cX12_book 56 = .ok (.getfield 113, 3) := by decide +kernel
theorem dX12_book_59 : decode cX12_book 59 = .ok (.aload_n 0, 1) := by decide +kernel
theorem dX12_book_60 : decode cX12_book 60 = .ok (.getfield 110, 3) := by decide +kernel
theorem dX12_book_63 : decode cX12_book 63 = .ok (.if_icmp .ge 120, 3) := by decide +kernel
theorem dX12_book_66 : decode cX12_book 66 = .ok (.aload_n 0, 1) := by decide +kernel
theorem dX12_book_67 : decode cX12_book 67 = .ok (.getfield 113, 3) := by decide +kernel
theorem dX12_book_70 : decode cX12_book 70 = .ok (.istore 4, 2) := by decide +kernel
theorem dX12_book_72 : decode cX12_book 72 = .ok (.aload_n 0, 1) := by decide +kernel
theorem dX12_book_73 : decode cX12_book 73 = .ok (.iconst 1, 1) := by decide +kernel
theorem dX12_book_74 : decode cX12_book 74 = .ok (.bipush 12, 2) := by decide +kernel
theorem dX12_book_76 : decode cX12_book 76 = .ok (.invokevirtual 166, 3) := by decide +kernel
theorem dX12_book_79 : decode cX12_book 79 = .ok (.istore 5, 2) := by decide +kernel
theorem dX12_book_81 : decode cX12_book 81 = .ok (.aload_n 0, 1) := by decide +kernel
theorem dX12_book_82 : decode cX12_book 82 = .ok (.getfield 120, 3) := by decide +kernel
theorem dX12_book_85 : decode cX12_book 85 = .ok (.ifCond .ne 19, 3) := by decide +kernel
theorem dX12_book_88 : decode cX12_book 88 = .ok (.iload_n 3, 1) := by decide +kernel
theorem dX12_book_89 : decode cX12_book 89 = .ok (.iload 5, 2) := by decide +kernel
theorem dX12_book_91 : decode cX12_book 91 = .ok (.invokestatic 266, 3) := by decide +kernel
theorem dX12_book_94 : decode cX12_book 94 = .ok (.ifCond .eq 10, 3) := by decide +kernel
theorem dX12_book_97 : decode cX12_book 97 = .ok (.aload_n 0, 1) := by decide +kernel
theorem dX12_book_98 : decode cX12_book 98 = .ok (.iconst 2, 1) := by decide +kernel
theorem dX12_book_99 : decode cX12_book 99 = .ok (.iload 4, 2) := by decide +kernel
theorem dX12_book_101 : decode cX12_book 101 = .ok (.invokevirtual 133, 3) := by decide +kernel
theorem dX12_book_104 : decode cX12_book 104 = .ok (.aload_n 0, 1) := by decide +kernel
theorem dX12_book_105 : decode cX12_book 105 = .ok (.getfield 120, 3) := by decide +kernel
theorem dX12_book_108 : decode cX12_book 108 = .ok (.ifCond .ne 16, 3) := by decide +kernel
theorem dX12_book_111 : decode cX12_book 111 = .ok (.iload_n 2, 1) := by decide +kernel
theorem dX12_book_112 : decode cX12_book 112 = .ok (.bipush 6, 2) := by decide +kernel
theorem dX12_book_114 : decode cX12_book 114 = .ok (.if_icmp .ne 10, 3) := by decide +kernel
theorem dX12_book_117 : decode cX12_book 117 = .ok (.aload_n 0, 1) := by decide +kernel
theorem dX12_book_118 : decode cX12_book 118 = .ok (.iconst 3, 1) := by decide +kernel
theorem dX12_book_119 : decode cX12_book 119 = .ok (.iload 4, 2) := by decide +kernel
theorem dX12_book_121 : decode cX12_book 121 = .ok (.invokevirtual 133, 3) := by decide +kernel
theorem dX12_book_124 : decode cX12_book 124 = .ok (.aload_n 0, 1) := by decide +kernel
theorem dX12_book_125 : decode cX12_book 125 = .ok (.iconst 0, 1) := by decide +kernel
theorem dX12_book_126 : decode cX12_book 126 = .ok (.bipush 99, 2) := by decide +kernel
theorem dX12_book_128 : decode cX12_book 128 = .ok (.invokevirtual 166, 3) := by decide +kernel
theorem dX12_book_131 : decode cX12_book 131 = .ok (.istore 6, 2) := by decide +kernel
theorem dX12_book_133 : decode cX12_book 133 = .ok (.aload_n 0, 1) := by decide +kernel
theorem dX12_book_134 : decode cX12_book 134 = .ok (.bipush 59, 2) := by decide +kernel
theorem dX12_book_136 : decode cX12_book 136 = .ok (.invokevirtual 179, 3) := by decide +kernel
theorem dX12_book_139 : decode cX12_book 139 = .ok (.aload_n 0, 1) := by decide +kernel
theorem dX12_book_140 : decode cX12_book 140 = .ok (.getfield 120, 3) := by decide +kernel
theorem dX12_book_143 : decode cX12_book 143 = .ok (.ifCond .ne 33, 3) := by decide +kernel
theorem dX12_book_146 : decode cX12_book 146 = .ok (.iload_n 3, 1) := by decide +kernel
theorem dX12_book_147 : decode cX12_book 147 = .ok (.iconst 1, 1) := by decide +kernel
theorem dX12_book_148 : decode cX12_book 148 = .ok (.iload 5, 2) := by decide +kernel
theorem dX12_book_150 : decode cX12_book 150 = .ok (.ishl, 1) := by decide +kernel
theorem dX12_book_151 : decode cX12_book 151 = .ok (.ior, 1) := by decide +kernel
theorem dX12_book_152 : decode cX12_book 152 = .ok (.istore_n 3, 1) := by decide +kernel
theorem dX12_book_153 : decode cX12_book 153 = .ok (.aload_n 0, 1) := by decide +kernel
theorem dX12_book_154 : decode cX12_book 154 = .ok (.getfield 55, 3) := by decide +kernel
theorem dX12_book_157 : decode cX12_book 157 = .ok (.iload_n 2, 1) := by decide +kernel
theorem dX12_book_158 : decode cX12_book 158 = .ok (.aaload, 1) := by decide +kernel
theorem dX12_book_159 : decode cX12_book 159 = .ok (.iconst 0, 1) := by decide +kernel
theorem dX12_book_160 : decode cX12_book 160 = .ok (.iload 5, 2) := by decide +kernel
theorem dX12_book_162 : decode cX12_book 162 = .ok (.iastore, 1) := by decide +kernel
theorem dX12_book_163 : decode cX12_book 163 = .ok (.aload_n 0, 1) := by decide +kernel
theorem dX12_book_164 : decode cX12_book 164 = .ok (.getfield 55, 3) := by decide +kernel
theorem dX12_book_167 : decode cX12_book 167 = .ok (.iload_n 2, 1) := by decide +kernel
theorem dX12_book_168 : decode cX12_book 168 = .ok (.aaload, 1) := by decide +kernel
theorem dX12_book_169 : decode cX12_book 169 = .ok (.iconst 1, 1) := by decide +kernel
theorem dX12_book_170 : decode cX12_book 170 = .ok (.iload 6, 2) := by decide +kernel
theorem dX12_book_172 : decode cX12_book 172 = .ok (.iastore, 1) := by decide +kernel
theorem dX12_book_173 : decode cX12_book 173 = .ok (.iinc 2 1, 3) := by decide +kernel
theorem dX12_book_176 : decode cX12_book 176 = .ok (.aload_n 0, 1) := by decide +kernel
theorem dX12_book_177 : decode cX12_book 177 = .ok (.invokevirtual 126, 3) := by decide +kernel
theorem dX12_book_180 : decode cX12_book 180 = .ok (.goto (-132), 3) := by decide +kernel
theorem dX12_book_183 : decode cX12_book 183 = .ok (.aload_n 0, 1) := by decide +kernel
theorem dX12_book_184 : decode cX12_book 184 = .ok (.getfield 120, 3) := by decide +kernel
theorem dX12_book_187 : decode cX12_book 187 = .ok (.ifCond .eq 8, 3) := by decide +kernel
theorem dX12_book_190 : decode cX12_book 190 = .ok (.aload_n 0, 1) := by decide +kernel
theorem dX12_book_191 : decode cX12_book 191 = .ok (.invokevirtual 193, 3) := by decide +kernel
theorem dX12_book_194 : decode cX12_book 194 = .ok (.ireturn, 1) := by decide +kernel
theorem dX12_book_195 : decode cX12_book 195 = .ok (.aload_n 0, 1) := by decide +kernel
theorem dX12_book_196 : decode cX12_book 196 = .ok (.iconst (-1), 1) := by decide +kernel
theorem dX12_book_197 : decode cX12_book 197 = .ok (.putfield 9, 3) := by decide +kernel
theorem dX12_book_200 : decode cX12_book 200 = .ok (.aload_n 0, 1) := by decide +kernel
theorem dX12_book_201 : decode cX12_book 201 = .ok (.iload_n 2, 1) := by decide +kernel
theorem dX12_book_202 : decode cX12_book 202 = .ok (.putfield 207, 3) := by decide +kernel
theorem dX12_book_205 : decode cX12_book 205 = .ok (.aload_n 0, 1) := by decide +kernel
theorem dX12_book_206 : decode cX12_book 206 = .ok (.getfield 55, 3) := by decide +kernel
theorem dX12_book_209 : decode cX12_book 209 = .ok (.aload_n 0, 1) := by decide +kernel
theorem dX12_book_210 : decode cX12_book 210 = .ok (.getfield 52, 3) := by decide +kernel
theorem dX12_book_213 : decode cX12_book 213 = .ok (.iload_n 2, 1) := by decide +kernel
theorem dX12_book_214 : decode cX12_book 214 = .ok (.invokestatic 196, 3) := by decide +kernel
theorem dX12_book_217 : decode cX12_book 217 = .ok (.iload_n 2, 1) := by decide +kernel
theorem dX12_book_218 : decode cX12_book 218 = .ok (.ireturn, 1) := by decide +kernel
theorem dX12_fault_0 : decode cX12_fault 0 = .ok (.aload_n 0, 1) := by decide +kernel
theorem dX12_fault_1 : decode cX12_fault 1 = .ok (.iconst 0, 1) := by decide +kernel
theorem dX12_fault_2 : decode cX12_fault 2 = .ok (.putfield 104, 3) := by decide +kernel
theorem dX12_fault_5 : decode cX12_fault 5 = .ok (.aload_n 0, 1) := by decide +kernel
theorem dX12_fault_6 : decode cX12_fault 6 = .ok (.getfield 9, 3) := by decide +kernel
theorem dX12_fault_9 : decode cX12_fault 9 = .ok (.ireturn, 1) := by decide +kernel
theorem dX12_eatBy_0 : decode cX12_eatBy 0 = .ok (.aload_n 0, 1) := by decide +kernel
theorem dX12_eatBy_1 : decode cX12_eatBy 1 = .ok (.getfield 61, 3) := by decide +kernel
theorem dX12_eatBy_4 : decode cX12_eatBy 4 = .ok (.iconst 0, 1) := by decide +kernel
theorem dX12_eatBy_5 : decode cX12_eatBy 5 = .ok (.iload_n 1, 1) := by decide +kernel
theorem dX12_eatBy_6 : decode cX12_eatBy 6 = .ok (.iastore, 1) := by decide +kernel
theorem dX12_eatBy_7 : decode cX12_eatBy 7 = .ok (.aload_n 0, 1) := by decide +kernel
theorem dX12_eatBy_8 : decode cX12_eatBy 8 = .ok (.getfield 61, 3) := by decide +kernel
theorem dX12_eatBy_11 : decode cX12_eatBy 11 = .ok (.iconst 1, 1) := by decide +kernel
theorem dX12_eatBy_12 : decode cX12_eatBy 12 = .ok (.iload_n 2, 1) := by decide +kernel
theorem dX12_eatBy_13 : decode cX12_eatBy 13 = .ok (.iastore, 1) := by decide +kernel
theorem dX12_eatBy_14 : decode cX12_eatBy 14 = .ok (.aload_n 0, 1) := by decide +kernel
theorem dX12_eatBy_15 : decode cX12_eatBy 15 = .ok (.getfield 61, 3) := by decide +kernel
theorem dX12_eatBy_18 : decode cX12_eatBy 18 = .ok (.iconst 2, 1) := by decide +kernel
theorem dX12_eatBy_19 : decode cX12_eatBy 19 = .ok (.iload_n 3, 1) := by decide +kernel
theorem dX12_eatBy_20 : decode cX12_eatBy 20 = .ok (.iastore, 1) := by decide +kernel
theorem dX12_eatBy_21 : decode cX12_eatBy 21 = .ok (.aload_n 0, 1) := by decide +kernel
theorem dX12_eatBy_22 : decode cX12_eatBy 22 = .ok (.getfield 61, 3) := by decide +kernel
theorem dX12_eatBy_25 : decode cX12_eatBy 25 = .ok (.iconst 3, 1) := by decide +kernel
theorem dX12_eatBy_26 : decode cX12_eatBy 26 = .ok (.iload 4, 2) := by decide +kernel
theorem dX12_eatBy_28 : decode cX12_eatBy 28 = .ok (.iastore, 1) := by decide +kernel
theorem dX12_eatBy_29 : decode cX12_eatBy 29 = .ok (.aload_n 0, 1) := by decide +kernel
theorem dX12_eatBy_30 : decode cX12_eatBy 30 = .ok (.getfield 61, 3) := by decide +kernel
theorem dX12_eatBy_33 : decode cX12_eatBy 33 = .ok (.iconst 4, 1) := by decide +kernel
theorem dX12_eatBy_34 : decode cX12_eatBy 34 = .ok (.iload 5, 2) := by decide +kernel
theorem dX12_eatBy_36 : decode cX12_eatBy 36 = .ok (.iastore, 1) := by decide +kernel
theorem dX12_eatBy_37 : decode cX12_eatBy 37 = .ok (.aload_n 0, 1) := by decide +kernel
theorem dX12_eatBy_38 : decode cX12_eatBy 38 = .ok (.getfield 61, 3) := by decide +kernel
theorem dX12_eatBy_41 : decode cX12_eatBy 41 = .ok (.iconst 5, 1) := by decide +kernel
theorem dX12_eatBy_42 : decode cX12_eatBy 42 = .ok (.iload 6, 2) := by decide +kernel
theorem dX12_eatBy_44 : decode cX12_eatBy 44 = .ok (.iastore, 1) := by decide +kernel
theorem dX12_eatBy_45 : decode cX12_eatBy 45 = .ok (.aload_n 0, 1) := by decide +kernel
theorem dX12_eatBy_46 : decode cX12_eatBy 46 = .ok (.getfield 61, 3) := by decide +kernel
theorem dX12_eatBy_49 : decode cX12_eatBy 49 = .ok (.bipush 6, 2) := by decide +kernel
theorem dX12_eatBy_51 : decode cX12_eatBy 51 = .ok (.iload 7, 2) := by decide +kernel
theorem dX12_eatBy_53 : decode cX12_eatBy 53 = .ok (.iastore, 1) := by decide +kernel
theorem dX12_eatBy_54 : decode cX12_eatBy 54 = .ok (.aload_n 0, 1) := by decide +kernel
theorem dX12_eatBy_55 : decode cX12_eatBy 55 = .ok (.getfield 61, 3) := by decide +kernel
theorem dX12_eatBy_58 : decode cX12_eatBy 58 = .ok (.bipush 7, 2) := by decide +kernel
theorem dX12_eatBy_60 : decode cX12_eatBy 60 = .ok (.iload 8, 2) := by decide +kernel
theorem dX12_eatBy_62 : decode cX12_eatBy 62 = .ok (.iastore, 1) := by decide +kernel
theorem dX12_eatBy_63 : decode cX12_eatBy 63 = .ok (.aload_n 0, 1) := by decide +kernel
theorem dX12_eatBy_64 : decode cX12_eatBy 64 = .ok (.invokevirtual 270, 3) := by decide +kernel
theorem dX12_eatBy_67 : decode cX12_eatBy 67 = .ok (.ireturn, 1) := by decide +kernel
theorem dX12_ones_0 : decode cX12_ones 0 = .ok (.iconst 0, 1) := by decide +kernel
theorem dX12_ones_1 : decode cX12_ones 1 = .ok (.istore_n 1, 1) := by decide +kernel
theorem dX12_ones_2 : decode cX12_ones 2 = .ok (.iconst 0, 1) := by decide +kernel
theorem dX12_ones_3 : decode cX12_ones 3 = .ok (.istore_n 2, 1) := by decide +kernel
theorem dX12_ones_4 : decode cX12_ones 4 = .ok (.iload_n 2, 1) := by decide +kernel
theorem dX12_ones_5 : decode cX12_ones 5 = .ok (.bipush 12, 2) := by decide +kernel
theorem dX12_ones_7 : decode cX12_ones 7 = .ok (.if_icmp .gt 17, 3) := by decide +kernel
theorem dX12_ones_10 : decode cX12_ones 10 = .ok (.iload_n 1, 1) := by decide +kernel
theorem dX12_ones_11 : decode cX12_ones 11 = .ok (.iload_n 0, 1) := by decide +kernel
theorem dX12_ones_12 : decode cX12_ones 12 = .ok (.iload_n 2, 1) := by decide +kernel
theorem dX12_ones_13 : decode cX12_ones 13 = .ok (.ishr, 1) := by decide +kernel
theorem dX12_ones_14 : decode cX12_ones 14 = .ok (.iconst 1, 1) := by decide +kernel
theorem dX12_ones_15 : decode cX12_ones 15 = .ok (.iand, 1) := by decide +kernel
theorem dX12_ones_16 : decode cX12_ones 16 = .ok (.iadd, 1) := by decide +kernel
theorem dX12_ones_17 : decode cX12_ones 17 = .ok (.istore_n 1, 1) := by decide +kernel
theorem dX12_ones_18 : decode cX12_ones 18 = .ok (.iinc 2 1, 3) := by decide +kernel
theorem dX12_ones_21 : decode cX12_ones 21 = .ok (.goto (-17), 3) := by decide +kernel
theorem dX12_ones_24 : decode cX12_ones 24 = .ok (.iload_n 1, 1) := by decide +kernel
theorem dX12_ones_25 : decode cX12_ones 25 = .ok (.ireturn, 1) := by decide +kernel
theorem dX12_isThere_0 : decode cX12_isThere 0 = .ok (.aload_n 0, 1) := by decide +kernel
theorem dX12_isThere_1 : decode cX12_isThere 1 = .ok (.iconst 0, 1) := by decide +kernel
theorem dX12_isThere_2 : decode cX12_isThere 2 = .ok (.iload_n 1, 1) := by decide +kernel
theorem dX12_isThere_3 : decode cX12_isThere 3 = .ok (.iadd, 1) := by decide +kernel
theorem dX12_isThere_4 : decode cX12_isThere 4 = .ok (.iaload, 1) := by decide +kernel
theorem dX12_isThere_5 : decode cX12_isThere 5 = .ok (.ifCond .le 7, 3) := by decide +kernel
theorem dX12_isThere_8 : decode cX12_isThere 8 = .ok (.iconst 1, 1) := by decide +kernel
theorem dX12_isThere_9 : decode cX12_isThere 9 = .ok (.goto 4, 3) := by decide +kernel
theorem dX12_isThere_12 : decode cX12_isThere 12 = .ok (.iconst 0, 1) := by decide +kernel
theorem dX12_isThere_13 : decode cX12_isThere 13 = .ok (.ireturn, 1) := by decide +kernel
theorem dX12_there_0 : decode cX12_there 0 = .ok (.iconst 0, 1) := by decide +kernel
theorem dX12_there_1 : decode cX12_there 1 = .ok (.istore_n 1, 1) := by decide +kernel
theorem dX12_there_2 : decode cX12_there 2 = .ok (.iconst 0, 1) := by decide +kernel
theorem dX12_there_3 : decode cX12_there 3 = .ok (.istore_n 2, 1) := by decide +kernel
theorem dX12_there_4 : decode cX12_there 4 = .ok (.iload_n 2, 1) := by decide +kernel
theorem dX12_there_5 : decode cX12_there 5 = .ok (.bipush 12, 2) := by decide +kernel
theorem dX12_there_7 : decode cX12_there 7 = .ok (.if_icmp .gt 27, 3) := by decide +kernel
theorem dX12_there_10 : decode cX12_there 10 = .ok (.iload_n 1, 1) := by decide +kernel
theorem dX12_there_11 : decode cX12_there 11 = .ok (.aload_n 0, 1) := by decide +kernel
theorem dX12_there_12 : decode cX12_there 12 = .ok (.iload_n 2, 1) := by decide +kernel
theorem dX12_there_13 : decode cX12_there 13 = .ok (.invokestatic 273, 3) := by decide +kernel
theorem dX12_there_16 : decode cX12_there 16 = .ok (.ifCond .eq 9, 3) := by decide +kernel
theorem dX12_there_19 : decode cX12_there 19 = .ok (.iconst 1, 1) := by decide +kernel
theorem dX12_there_20 : decode cX12_there 20 = .ok (.iload_n 2, 1) := by decide +kernel
theorem dX12_there_21 : decode cX12_there 21 = .ok (.ishl, 1) := by decide +kernel
theorem dX12_there_22 : decode cX12_there 22 = .ok (.goto 4, 3) := by decide +kernel
theorem dX12_there_25 : decode cX12_there 25 = .ok (.iconst 0, 1) := by decide +kernel
theorem dX12_there_26 : decode cX12_there 26 = .ok (.ior, 1) := by decide +kernel
theorem dX12_there_27 : decode cX12_there 27 = .ok (.istore_n 1, 1) := by decide +kernel
theorem dX12_there_28 : decode cX12_there 28 = .ok (.iinc 2 1, 3) := by decide +kernel
theorem dX12_there_31 : decode cX12_there 31 = .ok (.goto (-27), 3) := by decide +kernel
theorem dX12_there_34 : decode cX12_there 34 = .ok (.iload_n 1, 1) := by decide +kernel
theorem dX12_there_35 : decode cX12_there 35 = .ok (.ireturn, 1) := by decide +kernel
theorem dX12_onOne_0 : decode cX12_onOne 0 = .ok (.iconst 0, 1) := by decide +kernel
theorem dX12_onOne_1 : decode cX12_onOne 1 = .ok (.istore_n 2, 1) := by decide +kernel
theorem dX12_onOne_2 : decode cX12_onOne 2 = .ok (.iconst 0, 1) := by decide +kernel
theorem dX12_onOne_3 : decode cX12_onOne 3 = .ok (.istore_n 3, 1) := by decide +kernel
theorem dX12_onOne_4 : decode cX12_onOne 4 = .ok (.iload_n 3, 1) := by decide +kernel
theorem dX12_onOne_5 : decode cX12_onOne 5 = .ok (.bipush 12, 2) := by decide +kernel
theorem dX12_onOne_7 : decode cX12_onOne 7 = .ok (.if_icmp .gt 37, 3) := by decide +kernel
theorem dX12_onOne_10 : decode cX12_onOne 10 = .ok (.iload_n 2, 1) := by decide +kernel
theorem dX12_onOne_11 : decode cX12_onOne 11 = .ok (.aload_n 0, 1) := by decide +kernel
theorem dX12_onOne_12 : decode cX12_onOne 12 = .ok (.iload_n 3, 1) := by decide +kernel
theorem dX12_onOne_13 : decode cX12_onOne 13 = .ok (.invokestatic 273, 3) := by decide +kernel
theorem dX12_onOne_16 : decode cX12_onOne 16 = .ok (.ifCond .eq 19, 3) := by decide +kernel
theorem dX12_onOne_19 : decode cX12_onOne 19 = .ok (.aload_n 0, 1) := by decide +kernel
theorem dX12_onOne_20 : decode cX12_onOne 20 = .ok (.bipush 26, 2) := by decide +kernel
theorem dX12_onOne_22 : decode cX12_onOne 22 = .ok (.iload_n 3, 1) := by decide +kernel
theorem dX12_onOne_23 : decode cX12_onOne 23 = .ok (.iadd, 1) := by decide +kernel
theorem dX12_onOne_24 : decode cX12_onOne 24 = .ok (.iaload, 1) := by decide +kernel
theorem dX12_onOne_25 : decode cX12_onOne 25 = .ok (.iload_n 1, 1) := by decide +kernel
theorem dX12_onOne_26 : decode cX12_onOne 26 = .ok (.if_icmp .ne 9, 3) := by decide +kernel
theorem dX12_onOne_29 : decode cX12_onOne 29 = .ok (.iconst 1, 1) := by decide +kernel
theorem dX12_onOne_30 : decode cX12_onOne 30 = .ok (.iload_n 3, 1) := by decide +kernel
theorem dX12_onOne_31 : decode cX12_onOne 31 = .ok (.ishl, 1) := by decide +kernel
theorem dX12_onOne_32 : decode cX12_onOne 32 = .ok (.goto 4, 3) := by decide +kernel
theorem dX12_onOne_35 : decode cX12_onOne 35 = .ok (.iconst 0, 1) := by decide +kernel
theorem dX12_onOne_36 : decode cX12_onOne 36 = .ok (.ior, 1) := by decide +kernel
theorem dX12_onOne_37 : decode cX12_onOne 37 = .ok (.istore_n 2, 1) := by decide +kernel
theorem dX12_onOne_38 : decode cX12_onOne 38 = .ok (.iinc 3 1, 3) := by decide +kernel
theorem dX12_onOne_41 : decode cX12_onOne 41 = .ok (.goto (-37), 3) := by decide +kernel
theorem dX12_onOne_44 : decode cX12_onOne 44 = .ok (.iload_n 2, 1) := by decide +kernel
theorem dX12_onOne_45 : decode cX12_onOne 45 = .ok (.ireturn, 1) := by decide +kernel
theorem dX12_coolOf_0 : decode cX12_coolOf 0 = .ok (.iload_n 2, 1) := by decide +kernel
theorem dX12_coolOf_1 : decode cX12_coolOf 1 = .ok (.bipush 12, 2) := by decide +kernel
theorem dX12_coolOf_3 : decode cX12_coolOf 3 = .ok (.if_icmp .ne 7, 3) := by decide +kernel
theorem dX12_coolOf_6 : decode cX12_coolOf 6 = .ok (.iconst 0, 1) := by decide +kernel
theorem dX12_coolOf_7 : decode cX12_coolOf 7 = .ok (.goto 28, 3) := by decide +kernel
theorem dX12_coolOf_10 : decode cX12_coolOf 10 = .ok (.aload_n 1, 1) := by decide +kernel
theorem dX12_coolOf_11 : decode cX12_coolOf 11 = .ok (.bipush 45, 2) := by decide +kernel
theorem dX12_coolOf_13 : decode cX12_coolOf 13 = .ok (.bipush 6, 2) := by decide +kernel
theorem dX12_coolOf_15 : decode cX12_coolOf 15 = .ok (.aload_n 0, 1) := by decide +kernel
theorem dX12_coolOf_16 : decode cX12_coolOf 16 = .ok (.getfield 37, 3) := by decide +kernel
theorem dX12_coolOf_19 : decode cX12_coolOf 19 = .ok (.iload_n 2, 1) := by decide +kernel
theorem dX12_coolOf_20 : decode cX12_coolOf 20 = .ok (.aaload, 1) := by decide +kernel
theorem dX12_coolOf_21 : decode cX12_coolOf 21 = .ok (.iconst 0, 1) := by decide +kernel
theorem dX12_coolOf_22 : decode cX12_coolOf 22 = .ok (.iaload, 1) := by decide +kernel
theorem dX12_coolOf_23 : decode cX12_coolOf 23 = .ok (.imul, 1) := by decide +kernel
theorem dX12_coolOf_24 : decode cX12_coolOf 24 = .ok (.iadd, 1) := by decide +kernel
theorem dX12_coolOf_25 : decode cX12_coolOf 25 = .ok (.aload_n 0, 1) := by decide +kernel
theorem dX12_coolOf_26 : decode cX12_coolOf 26 = .ok (.getfield 37, 3) := by decide +kernel
theorem dX12_coolOf_29 : decode cX12_coolOf 29 = .ok (.iload_n 2, 1) := by decide +kernel
theorem dX12_coolOf_30 : decode cX12_coolOf 30 = .ok (.aaload, 1) := by decide +kernel
theorem dX12_coolOf_31 : decode cX12_coolOf 31 = .ok (.iconst 1, 1) := by decide +kernel
theorem dX12_coolOf_32 : decode cX12_coolOf 32 = .ok (.iaload, 1) := by decide +kernel
theorem dX12_coolOf_33 : decode cX12_coolOf 33 = .ok (.iadd, 1) := by decide +kernel
theorem dX12_coolOf_34 : decode cX12_coolOf 34 = .ok (.iaload, 1) := by decide +kernel
theorem dX12_coolOf_35 : decode cX12_coolOf 35 = .ok (.ireturn, 1) := by decide +kernel
theorem dX12_eatOf_0 : decode cX12_eatOf 0 = .ok (.aload_n 1, 1) := by decide +kernel
theorem dX12_eatOf_1 : decode cX12_eatOf 1 = .ok (.iload_n 2, 1) := by decide +kernel
theorem dX12_eatOf_2 : decode cX12_eatOf 2 = .ok (.invokestatic 273, 3) := by decide +kernel
theorem dX12_eatOf_5 : decode cX12_eatOf 5 = .ok (.ifCond .ne 5, 3) := by decide +kernel
theorem dX12_eatOf_8 : decode cX12_eatOf 8 = .ok (.iconst 0, 1) := by decide +kernel
theorem dX12_eatOf_9 : decode cX12_eatOf 9 = .ok (.ireturn, 1) := by decide +kernel
theorem dX12_eatOf_10 : decode cX12_eatOf 10 = .ok (.aload_n 1, 1) := by decide +kernel
theorem dX12_eatOf_11 : decode cX12_eatOf 11 = .ok (.bipush 26, 2) := by decide +kernel
theorem dX12_eatOf_13 : decode cX12_eatOf 13 = .ok (.iload_n 2, 1) := by decide +kernel
theorem dX12_eatOf_14 : decode cX12_eatOf 14 = .ok (.iadd, 1) := by decide +kernel
theorem dX12_eatOf_15 : decode cX12_eatOf 15 = .ok (.iaload, 1) := by decide +kernel
theorem dX12_eatOf_16 : decode cX12_eatOf 16 = .ok (.istore_n 3, 1) := by decide +kernel
theorem dX12_eatOf_17 : decode cX12_eatOf 17 = .ok (.aload_n 0, 1) := by decide +kernel
theorem dX12_eatOf_18 : decode cX12_eatOf 18 = .ok (.aload_n 1, 1) := by decide +kernel
theorem dX12_eatOf_19 : decode cX12_eatOf 19 = .ok (.iconst 0, 1) := by decide +kernel
theorem dX12_eatOf_20 : decode cX12_eatOf 20 = .ok (.iload_n 2, 1) := by decide +kernel
theorem dX12_eatOf_21 : decode cX12_eatOf 21 = .ok (.iadd, 1) := by decide +kernel
theorem dX12_eatOf_22 : decode cX12_eatOf 22 = .ok (.iaload, 1) := by decide +kernel
theorem dX12_eatOf_23 : decode cX12_eatOf 23 = .ok (.aload_n 0, 1) := by decide +kernel
theorem dX12_eatOf_24 : decode cX12_eatOf 24 = .ok (.getfield 37, 3) := by decide +kernel
theorem dX12_eatOf_27 : decode cX12_eatOf 27 = .ok (.iload_n 2, 1) := by decide +kernel
theorem dX12_eatOf_28 : decode cX12_eatOf 28 = .ok (.aaload, 1) := by decide +kernel
theorem dX12_eatOf_29 : decode cX12_eatOf 29 = .ok (.iconst 2, 1) := by decide +kernel
theorem dX12_eatOf_30 : decode cX12_eatOf 30 = .ok (.iaload, 1) := by decide +kernel
theorem dX12_eatOf_31 : decode cX12_eatOf 31 = .ok (.aload_n 1, 1) := by decide +kernel
theorem dX12_eatOf_32 : decode cX12_eatOf 32 = .ok (.bipush 13, 2) := by decide +kernel
theorem dX12_eatOf_34 : decode cX12_eatOf 34 = .ok (.iload_n 2, 1) := by decide +kernel
theorem dX12_eatOf_35 : decode cX12_eatOf 35 = .ok (.iadd, 1) := by decide +kernel
theorem dX12_eatOf_36 : decode cX12_eatOf 36 = .ok (.iaload, 1) := by decide +kernel
theorem dX12_eatOf_37 : decode cX12_eatOf 37 = .ok (.aload_n 1, 1) := by decide +kernel
theorem dX12_eatOf_38 : decode cX12_eatOf 38 = .ok (.bipush 39, 2) := by decide +kernel
theorem dX12_eatOf_40 : decode cX12_eatOf 40 = .ok (.iload_n 3, 1) := by decide +kernel
theorem dX12_eatOf_41 : decode cX12_eatOf 41 = .ok (.iadd, 1) := by decide +kernel
theorem dX12_eatOf_42 : decode cX12_eatOf 42 = .ok (.iaload, 1) := by decide +kernel
theorem dX12_eatOf_43 : decode cX12_eatOf 43 = .ok (.aload_n 1, 1) := by decide +kernel
theorem dX12_eatOf_44 : decode cX12_eatOf 44 = .ok (.iload_n 3, 1) := by decide +kernel
theorem dX12_eatOf_45 : decode cX12_eatOf 45 = .ok (.invokestatic 277, 3) := by decide +kernel
theorem dX12_eatOf_48 : decode cX12_eatOf 48 = .ok (.invokestatic 281, 3) := by decide +kernel
theorem dX12_eatOf_51 : decode cX12_eatOf 51 = .ok (.iconst 1, 1) := by decide +kernel
theorem dX12_eatOf_52 : decode cX12_eatOf 52 = .ok (.isub, 1) := by decide +kernel
theorem dX12_eatOf_53 : decode cX12_eatOf 53 = .ok (.aload_n 0, 1) := by decide +kernel
theorem dX12_eatOf_54 : decode cX12_eatOf 54 = .ok (.aload_n 1, 1) := by decide +kernel
theorem dX12_eatOf_55 : decode cX12_eatOf 55 = .ok (.iload_n 2, 1) := by decide +kernel
theorem dX12_eatOf_56 : decode cX12_eatOf 56 = .ok (.invokevirtual 284, 3) := by decide +kernel
theorem dX12_eatOf_59 : decode cX12_eatOf 59 = .ok (.aload_n 1, 1) := by decide +kernel
theorem dX12_eatOf_60 : decode cX12_eatOf 60 = .ok (.bipush 82, 2) := by decide +kernel
theorem dX12_eatOf_62 : decode cX12_eatOf 62 = .ok (.iaload, 1) := by decide +kernel
theorem dX12_eatOf_63 : decode cX12_eatOf 63 = .ok (.iload_n 2, 1) := by decide +kernel
theorem dX12_eatOf_64 : decode cX12_eatOf 64 = .ok (.invokevirtual 287, 3) := by decide +kernel
theorem dX12_eatOf_67 : decode cX12_eatOf 67 = .ok (.ireturn, 1) := by decide +kernel
theorem dX12_leaves_0 : decode cX12_leaves 0 = .ok (.aload_n 0, 1) := by decide +kernel
theorem dX12_leaves_1 : decode cX12_leaves 1 = .ok (.iconst 0, 1) := by decide +kernel
theorem dX12_leaves_2 : decode cX12_leaves 2 = .ok (.iload_n 1, 1) := by decide +kernel
theorem dX12_leaves_3 : decode cX12_leaves 3 = .ok (.iadd, 1) := by decide +kernel
theorem dX12_leaves_4 : decode cX12_leaves 4 = .ok (.iconst 0, 1) := by decide +kernel
theorem dX12_leaves_5 : decode cX12_leaves 5 = .ok (.iastore, 1) := by decide +kernel
theorem dX12_leaves_6 : decode cX12_leaves 6 = .ok (.aload_n 0, 1) := by decide +kernel
theorem dX12_leaves_7 : decode cX12_leaves 7 = .ok (.bipush 13, 2) := by decide +kernel
theorem dX12_leaves_9 : decode cX12_leaves 9 = .ok (.iload_n 1, 1) := by decide +kernel
theorem dX12_leaves_10 : decode cX12_leaves 10 = .ok (.iadd, 1) := by decide +kernel
theorem dX12_leaves_11 : decode cX12_leaves 11 = .ok (.iconst 0, 1) := by decide +kernel
theorem dX12_leaves_12 : decode cX12_leaves 12 = .ok (.iastore, 1) := by decide +kernel
theorem dX12_leaves_13 : decode cX12_leaves 13 = .ok (.aload_n 0, 1) := by decide +kernel
theorem dX12_leaves_14 : decode cX12_leaves 14 = .ok (.bipush 26, 2) := by decide +kernel
theorem dX12_leaves_16 : decode cX12_leaves 16 = .ok (.iload_n 1, 1) := by decide +kernel
theorem dX12_leaves_17 : decode cX12_leaves 17 = .ok (.iadd, 1) := by decide +kernel
theorem dX12_leaves_18 : decode cX12_leaves 18 = .ok (.iconst (-1), 1) := by decide +kernel
theorem dX12_leaves_19 : decode cX12_leaves 19 = .ok (.iastore, 1) := by decide +kernel
theorem dX12_leaves_20 : decode cX12_leaves 20 = .ok (.return_, 1) := by decide +kernel
theorem dX12_asks_0 : decode cX12_asks 0 = .ok (.aload_n 0, 1) := by decide +kernel
theorem dX12_asks_1 : decode cX12_asks 1 = .ok (.iload_n 1, 1) := by decide +kernel
theorem dX12_asks_2 : decode cX12_asks 2 = .ok (.invokestatic 273, 3) := by decide +kernel
theorem dX12_asks_5 : decode cX12_asks 5 = .ok (.ifCond .ne 5, 3) := by decide +kernel
theorem dX12_asks_8 : decode cX12_asks 8 = .ok (.iconst 0, 1) := by decide +kernel
theorem dX12_asks_9 : decode cX12_asks 9 = .ok (.ireturn, 1) := by decide +kernel
theorem dX12_asks_10 : decode cX12_asks 10 = .ok (.aload_n 0, 1) := by decide +kernel
theorem dX12_asks_11 : decode cX12_asks 11 = .ok (.iload_n 1, 1) := by decide +kernel
theorem dX12_asks_12 : decode cX12_asks 12 = .ok (.invokestatic 291, 3) := by decide +kernel
theorem dX12_asks_15 : decode cX12_asks 15 = .ok (.iconst 1, 1) := by decide +kernel
theorem dX12_asks_16 : decode cX12_asks 16 = .ok (.ireturn, 1) := by decide +kernel
theorem dX12_drives_0 : decode cX12_drives 0 = .ok (.aload_n 0, 1) := by decide +kernel
theorem dX12_drives_1 : decode cX12_drives 1 = .ok (.iload_n 1, 1) := by decide +kernel
theorem dX12_drives_2 : decode cX12_drives 2 = .ok (.invokestatic 273, 3) := by decide +kernel
theorem dX12_drives_5 : decode cX12_drives 5 = .ok (.ifCond .eq 13, 3) := by decide +kernel
theorem dX12_drives_8 : decode cX12_drives 8 = .ok (.aload_n 0, 1) := by decide +kernel
theorem dX12_drives_9 : decode cX12_drives 9 = .ok (.bipush 26, 2) := by decide +kernel
theorem dX12_drives_11 : decode cX12_drives 11 = .ok (.iload_n 1, 1) := by decide +kernel
theorem dX12_drives_12 : decode cX12_drives 12 = .ok (.iadd, 1) := by decide +kernel
theorem dX12_drives_13 : decode cX12_drives 13 = .ok (.iaload, 1) := by decide +kernel
theorem dX12_drives_14 : decode cX12_drives 14 = .ok (.iload_n 2, 1) := by decide +kernel
theorem dX12_drives_15 : decode cX12_drives 15 = .ok (.if_icmp .ne 5, 3) := by decide +kernel
theorem dX12_drives_18 : decode cX12_drives 18 = .ok (.iconst 0, 1) := by decide +kernel
theorem dX12_drives_19 : decode cX12_drives 19 = .ok (.ireturn, 1) := by decide +kernel
theorem dX12_drives_20 : decode cX12_drives 20 = .ok (.aload_n 0, 1) := by decide +kernel
theorem dX12_drives_21 : decode cX12_drives 21 = .ok (.bipush 26, 2) := by decide +kernel
theorem dX12_drives_23 : decode cX12_drives 23 = .ok (.iload_n 1, 1) := by decide +kernel
theorem dX12_drives_24 : decode cX12_drives 24 = .ok (.iadd, 1) := by decide +kernel
theorem dX12_drives_25 : decode cX12_drives 25 = .ok (.iload_n 2, 1) := by decide +kernel
theorem dX12_drives_26 : decode cX12_drives 26 = .ok (.iastore, 1) := by decide +kernel
theorem dX12_drives_27 : decode cX12_drives 27 = .ok (.iconst 1, 1) := by decide +kernel
theorem dX12_drives_28 : decode cX12_drives 28 = .ok (.ireturn, 1) := by decide +kernel
theorem dX12_cools_0 : decode cX12_cools 0 = .ok (.aload_n 1, 1) := by decide +kernel
theorem dX12_cools_1 : decode cX12_cools 1 = .ok (.bipush 45, 2) := by decide +kernel
theorem dX12_cools_3 : decode cX12_cools 3 = .ok (.bipush 6, 2) := by decide +kernel
theorem dX12_cools_5 : decode cX12_cools 5 = .ok (.iload_n 2, 1) := by decide +kernel
theorem dX12_cools_6 : decode cX12_cools 6 = .ok (.imul, 1) := by decide +kernel
theorem dX12_cools_7 : decode cX12_cools 7 = .ok (.iadd, 1) := by decide +kernel
theorem dX12_cools_8 : decode cX12_cools 8 = .ok (.iload_n 3, 1) := by decide +kernel
theorem dX12_cools_9 : decode cX12_cools 9 = .ok (.iadd, 1) := by decide +kernel
theorem dX12_cools_10 : decode cX12_cools 10 = .ok (.bipush 9, 2) := by decide +kernel
theorem dX12_cools_12 : decode cX12_cools 12 = .ok (.aload_n 1, 1) := by decide +kernel
theorem dX12_cools_13 : decode cX12_cools 13 = .ok (.bipush 45, 2) := by decide +kernel
theorem dX12_cools_15 : decode cX12_cools 15 = .ok (.bipush 6, 2) := by decide +kernel
theorem dX12_cools_17 : decode cX12_cools 17 = .ok (.iload_n 2, 1) := by decide +kernel
theorem dX12_cools_18 : decode cX12_cools 18 = .ok (.imul, 1) := by decide +kernel
theorem dX12_cools_19 : decode cX12_cools 19 = .ok (.iadd, 1) := by decide +kernel
theorem dX12_cools_20 : decode cX12_cools 20 = .ok (.iload_n 3, 1) := by decide +kernel
theorem dX12_cools_21 : decode cX12_cools 21 = .ok (.iadd, 1) := by decide +kernel
theorem dX12_cools_22 : decode cX12_cools 22 = .ok (.iaload, 1) := by decide +kernel
theorem dX12_cools_23 : decode cX12_cools 23 = .ok (.iconst 1, 1) := by decide +kernel
theorem dX12_cools_24 : decode cX12_cools 24 = .ok (.iadd, 1) := by decide +kernel
theorem dX12_cools_25 : decode cX12_cools 25 = .ok (.invokestatic 247, 3) := by decide +kernel
theorem dX12_cools_28 : decode cX12_cools 28 = .ok (.iastore, 1) := by decide +kernel
theorem dX12_cools_29 : decode cX12_cools 29 = .ok (.return_, 1) := by decide +kernel
theorem dX12_doesAgain_0 : decode cX12_doesAgain 0 = .ok (.aload_n 1, 1) := by decide +kernel
theorem dX12_doesAgain_1 : decode cX12_doesAgain 1 = .ok (.iload_n 2, 1) := by decide +kernel
theorem dX12_doesAgain_2 : decode cX12_doesAgain 2 = .ok (.invokestatic 273, 3) := by decide +kernel
theorem dX12_doesAgain_5 : decode cX12_doesAgain 5 = .ok (.ifCond .eq 5, 3) := by decide +kernel
theorem dX12_doesAgain_8 : decode cX12_doesAgain 8 = .ok (.iconst 0, 1) := by decide +kernel
theorem dX12_doesAgain_9 : decode cX12_doesAgain 9 = .ok (.ireturn, 1) := by decide +kernel
theorem dX12_doesAgain_10 : decode cX12_doesAgain 10 = .ok (.aload_n 0, 1) := by decide +kernel
theorem dX12_doesAgain_11 : decode cX12_doesAgain 11 = .ok (.aload_n 1, 1) := by decide +kernel
theorem dX12_doesAgain_12 : decode cX12_doesAgain 12 = .ok (.iload_n 2, 1) := by decide +kernel
theorem dX12_doesAgain_13 : decode cX12_doesAgain 13 = .ok (.invokevirtual 200, 3) := by decide +kernel
theorem dX12_doesAgain_16 : decode cX12_doesAgain 16 = .ok (.iconst 1, 1) := by decide +kernel
theorem dX12_doesAgain_17 : decode cX12_doesAgain 17 = .ok (.ireturn, 1) := by decide +kernel
theorem dX12_grazes_0 : decode cX12_grazes 0 = .ok (.aload_n 1, 1) := by decide +kernel
theorem dX12_grazes_1 : decode cX12_grazes 1 = .ok (.bipush 26, 2) := by decide +kernel
theorem dX12_grazes_3 : decode cX12_grazes 3 = .ok (.iload_n 2, 1) := by decide +kernel
theorem dX12_grazes_4 : decode cX12_grazes 4 = .ok (.iadd, 1) := by decide +kernel
theorem dX12_grazes_5 : decode cX12_grazes 5 = .ok (.iaload, 1) := by decide +kernel
theorem dX12_grazes_6 : decode cX12_grazes 6 = .ok (.istore_n 3, 1) := by decide +kernel
theorem dX12_grazes_7 : decode cX12_grazes 7 = .ok (.aload_n 0, 1) := by decide +kernel
theorem dX12_grazes_8 : decode cX12_grazes 8 = .ok (.getfield 73, 3) := by decide +kernel
theorem dX12_grazes_11 : decode cX12_grazes 11 = .ok (.iload_n 2, 1) := by decide +kernel
theorem dX12_grazes_12 : decode cX12_grazes 12 = .ok (.iaload, 1) := by decide +kernel
theorem dX12_grazes_13 : decode cX12_grazes 13 = .ok (.aload_n 1, 1) := by decide +kernel
theorem dX12_grazes_14 : decode cX12_grazes 14 = .ok (.bipush 39, 2) := by decide +kernel
theorem dX12_grazes_16 : decode cX12_grazes 16 = .ok (.iload_n 3, 1) := by decide +kernel
theorem dX12_grazes_17 : decode cX12_grazes 17 = .ok (.iadd, 1) := by decide +kernel
theorem dX12_grazes_18 : decode cX12_grazes 18 = .ok (.iaload, 1) := by decide +kernel
theorem dX12_grazes_19 : decode cX12_grazes 19 = .ok (.invokestatic 247, 3) := by decide +kernel
theorem dX12_grazes_22 : decode cX12_grazes 22 = .ok (.istore 4, 2) := by decide +kernel
theorem dX12_grazes_24 : decode cX12_grazes 24 = .ok (.aload_n 1, 1) := by decide +kernel
theorem dX12_grazes_25 : decode cX12_grazes 25 = .ok (.bipush 39, 2) := by decide +kernel
theorem dX12_grazes_27 : decode cX12_grazes 27 = .ok (.iload_n 3, 1) := by decide +kernel
theorem dX12_grazes_28 : decode cX12_grazes 28 = .ok (.iadd, 1) := by decide +kernel
theorem dX12_grazes_29 : decode cX12_grazes 29 = .ok (.dup2, 1) := by decide +kernel
theorem dX12_grazes_30 : decode cX12_grazes 30 = .ok (.iaload, 1) := by decide +kernel
theorem dX12_grazes_31 : decode cX12_grazes 31 = .ok (.iload 4, 2) := by decide +kernel
theorem dX12_grazes_33 : decode cX12_grazes 33 = .ok (.isub, 1) := by decide +kernel
theorem dX12_grazes_34 : decode cX12_grazes 34 = .ok (.iastore, 1) := by decide +kernel
theorem dX12_grazes_35 : decode cX12_grazes 35 = .ok (.aload_n 1, 1) := by decide +kernel
theorem dX12_grazes_36 : decode cX12_grazes 36 = .ok (.iconst 0, 1) := by decide +kernel
theorem dX12_grazes_37 : decode cX12_grazes 37 = .ok (.iload_n 2, 1) := by decide +kernel
theorem dX12_grazes_38 : decode cX12_grazes 38 = .ok (.iadd, 1) := by decide +kernel
theorem dX12_grazes_39 : decode cX12_grazes 39 = .ok (.dup2, 1) := by decide +kernel
theorem dX12_grazes_40 : decode cX12_grazes 40 = .ok (.iaload, 1) := by decide +kernel
theorem dX12_grazes_41 : decode cX12_grazes 41 = .ok (.aload_n 0, 1) := by decide +kernel
theorem dX12_grazes_42 : decode cX12_grazes 42 = .ok (.getfield 73, 3) := by decide +kernel
theorem dX12_grazes_45 : decode cX12_grazes 45 = .ok (.iload_n 2, 1) := by decide +kernel
theorem dX12_grazes_46 : decode cX12_grazes 46 = .ok (.iaload, 1) := by decide +kernel
theorem dX12_grazes_47 : decode cX12_grazes 47 = .ok (.iload 4, 2) := by decide +kernel
theorem dX12_grazes_49 : decode cX12_grazes 49 = .ok (.isub, 1) := by decide +kernel
theorem dX12_grazes_50 : decode cX12_grazes 50 = .ok (.isub, 1) := by decide +kernel
theorem dX12_grazes_51 : decode cX12_grazes 51 = .ok (.iastore, 1) := by decide +kernel
theorem dX12_grazes_52 : decode cX12_grazes 52 = .ok (.aload_n 1, 1) := by decide +kernel
theorem dX12_grazes_53 : decode cX12_grazes 53 = .ok (.iconst 0, 1) := by decide +kernel
theorem dX12_grazes_54 : decode cX12_grazes 54 = .ok (.iload_n 2, 1) := by decide +kernel
theorem dX12_grazes_55 : decode cX12_grazes 55 = .ok (.iadd, 1) := by decide +kernel
theorem dX12_grazes_56 : decode cX12_grazes 56 = .ok (.iaload, 1) := by decide +kernel
theorem dX12_grazes_57 : decode cX12_grazes 57 = .ok (.ifCond .le 4, 3) := by decide +kernel
theorem dX12_grazes_60 : decode cX12_grazes 60 = .ok (.return_, 1) := by decide +kernel
theorem dX12_grazes_61 : decode cX12_grazes 61 = .ok (.aload_n 1, 1) := by decide +kernel
theorem dX12_grazes_62 : decode cX12_grazes 62 = .ok (.iload_n 2, 1) := by decide +kernel
theorem dX12_grazes_63 : decode cX12_grazes 63 = .ok (.invokestatic 291, 3) := by decide +kernel
theorem dX12_grazes_66 : decode cX12_grazes 66 = .ok (.aload_n 1, 1) := by decide +kernel
theorem dX12_grazes_67 : decode cX12_grazes 67 = .ok (.bipush 81, 2) := by decide +kernel
theorem dX12_grazes_69 : decode cX12_grazes 69 = .ok (.dup2, 1) := by decide +kernel
theorem dX12_grazes_70 : decode cX12_grazes 70 = .ok (.iaload, 1) := by decide +kernel
theorem dX12_grazes_71 : decode cX12_grazes 71 = .ok (.iconst 1, 1) := by decide +kernel
theorem dX12_grazes_72 : decode cX12_grazes 72 = .ok (.iadd, 1) := by decide +kernel
theorem dX12_grazes_73 : decode cX12_grazes 73 = .ok (.iastore, 1) := by decide +kernel
theorem dX12_grazes_74 : decode cX12_grazes 74 = .ok (.return_, 1) := by decide +kernel
theorem dX12_dayEnds_0 : decode cX12_dayEnds 0 = .ok (.iconst 0, 1) := by decide +kernel
theorem dX12_dayEnds_1 : decode cX12_dayEnds 1 = .ok (.istore_n 2, 1) := by decide +kernel
theorem dX12_dayEnds_2 : decode cX12_dayEnds 2 = .ok (.iload_n 2, 1) := by decide +kernel
theorem dX12_dayEnds_3 : decode cX12_dayEnds 3 = .ok (.bipush 12, 2) := by decide +kernel
theorem dX12_dayEnds_5 : decode cX12_dayEnds 5 = .ok (.if_icmp .gt 21, 3) := by decide +kernel
theorem dX12_dayEnds_8 : decode cX12_dayEnds 8 = .ok (.aload_n 0, 1) := by decide +kernel
theorem dX12_dayEnds_9 : decode cX12_dayEnds 9 = .ok (.getfield 73, 3) := by decide +kernel
theorem dX12_dayEnds_12 : decode cX12_dayEnds 12 = .ok (.iload_n 2, 1) := by decide +kernel
theorem dX12_dayEnds_13 : decode cX12_dayEnds 13 = .ok (.aload_n 0, 1) := by decide +kernel
theorem dX12_dayEnds_14 : decode cX12_dayEnds 14 = .ok (.aload_n 1, 1) := by decide +kernel
theorem dX12_dayEnds_15 : decode cX12_dayEnds 15 = .ok (.iload_n 2, 1) := by decide +kernel
theorem dX12_dayEnds_16 : decode cX12_dayEnds 16 = .ok (.invokevirtual 294, 3) := by decide +kernel
theorem dX12_dayEnds_19 : decode cX12_dayEnds 19 = .ok (.iastore, 1) := by decide +kernel
theorem dX12_dayEnds_20 : decode cX12_dayEnds 20 = .ok (.iinc 2 1, 3) := by decide +kernel
theorem dX12_dayEnds_23 : decode cX12_dayEnds 23 = .ok (.goto (-21), 3) := by decide +kernel
theorem dX12_dayEnds_26 : decode cX12_dayEnds 26 = .ok (.iconst 0, 1) := by decide +kernel
theorem dX12_dayEnds_27 : decode cX12_dayEnds 27 = .ok (.istore_n 2, 1) := by decide +kernel
theorem dX12_dayEnds_28 : decode cX12_dayEnds 28 = .ok (.iload_n 2, 1) := by decide +kernel
theorem dX12_dayEnds_29 : decode cX12_dayEnds 29 = .ok (.bipush 12, 2) := by decide +kernel
theorem dX12_dayEnds_31 : decode cX12_dayEnds 31 = .ok (.if_icmp .gt 23, 3) := by decide +kernel
theorem dX12_dayEnds_34 : decode cX12_dayEnds 34 = .ok (.aload_n 1, 1) := by decide +kernel
theorem dX12_dayEnds_35 : decode cX12_dayEnds 35 = .ok (.iload_n 2, 1) := by decide +kernel
theorem dX12_dayEnds_36 : decode cX12_dayEnds 36 = .ok (.invokestatic 273, 3) := by decide +kernel
theorem dX12_dayEnds_39 : decode cX12_dayEnds 39 = .ok (.ifCond .eq 9, 3) := by decide +kernel
theorem dX12_dayEnds_42 : decode cX12_dayEnds 42 = .ok (.aload_n 0, 1) := by decide +kernel
theorem dX12_dayEnds_43 : decode cX12_dayEnds 43 = .ok (.aload_n 1, 1) := by decide +kernel
theorem dX12_dayEnds_44 : decode cX12_dayEnds 44 = .ok (.iload_n 2, 1) := by decide +kernel
theorem dX12_dayEnds_45 : decode cX12_dayEnds 45 = .ok (.invokevirtual 297, 3) := by decide +kernel
theorem dX12_dayEnds_48 : decode cX12_dayEnds 48 = .ok (.iinc 2 1, 3) := by decide +kernel
theorem dX12_dayEnds_51 : decode cX12_dayEnds 51 = .ok (.goto (-23), 3) := by decide +kernel
theorem dX12_dayEnds_54 : decode cX12_dayEnds 54 = .ok (.iconst 0, 1) := by decide +kernel
theorem dX12_dayEnds_55 : decode cX12_dayEnds 55 = .ok (.istore_n 2, 1) := by decide +kernel
theorem dX12_dayEnds_56 : decode cX12_dayEnds 56 = .ok (.iload_n 2, 1) := by decide +kernel
theorem dX12_dayEnds_57 : decode cX12_dayEnds 57 = .ok (.bipush 12, 2) := by decide +kernel
theorem dX12_dayEnds_59 : decode cX12_dayEnds 59 = .ok (.if_icmp .gt 31, 3) := by decide +kernel
theorem dX12_dayEnds_62 : decode cX12_dayEnds 62 = .ok (.aload_n 1, 1) := by decide +kernel
theorem dX12_dayEnds_63 : decode cX12_dayEnds 63 = .ok (.bipush 13, 2) := by decide +kernel
theorem dX12_dayEnds_65 : decode cX12_dayEnds 65 = .ok (.iload_n 2, 1) := by decide +kernel
theorem dX12_dayEnds_66 : decode cX12_dayEnds 66 = .ok (.iadd, 1) := by decide +kernel
theorem dX12_dayEnds_67 : decode cX12_dayEnds 67 = .ok (.dup2, 1) := by decide +kernel
theorem dX12_dayEnds_68 : decode cX12_dayEnds 68 = .ok (.iaload, 1) := by decide +kernel
theorem dX12_dayEnds_69 : decode cX12_dayEnds 69 = .ok (.aload_n 1, 1) := by decide +kernel
theorem dX12_dayEnds_70 : decode cX12_dayEnds 70 = .ok (.iload_n 2, 1) := by decide +kernel
theorem dX12_dayEnds_71 : decode cX12_dayEnds 71 = .ok (.invokestatic 273, 3) := by decide +kernel
theorem dX12_dayEnds_74 : decode cX12_dayEnds 74 = .ok (.ifCond .eq 7, 3) := by decide +kernel
theorem dX12_dayEnds_77 : decode cX12_dayEnds 77 = .ok (.iconst 1, 1) := by decide +kernel
theorem dX12_dayEnds_78 : decode cX12_dayEnds 78 = .ok (.goto 4, 3) := by decide +kernel
theorem dX12_dayEnds_81 : decode cX12_dayEnds 81 = .ok (.iconst 0, 1) := by decide +kernel
theorem dX12_dayEnds_82 : decode cX12_dayEnds 82 = .ok (.iadd, 1) := by decide +kernel
theorem dX12_dayEnds_83 : decode cX12_dayEnds 83 = .ok (.iastore, 1) := by decide +kernel
theorem dX12_dayEnds_84 : decode cX12_dayEnds 84 = .ok (.iinc 2 1, 3) := by decide +kernel
theorem dX12_dayEnds_87 : decode cX12_dayEnds 87 = .ok (.goto (-31), 3) := by decide +kernel
theorem dX12_dayEnds_90 : decode cX12_dayEnds 90 = .ok (.iconst 0, 1) := by decide +kernel
theorem dX12_dayEnds_91 : decode cX12_dayEnds 91 = .ok (.istore_n 2, 1) := by decide +kernel
theorem dX12_dayEnds_92 : decode cX12_dayEnds 92 = .ok (.iload_n 2, 1) := by decide +kernel
theorem dX12_dayEnds_93 : decode cX12_dayEnds 93 = .ok (.aload_n 0, 1) := by decide +kernel
theorem dX12_dayEnds_94 : decode cX12_dayEnds 94 = .ok (.getfield 23, 3) := by decide +kernel
theorem dX12_dayEnds_97 : decode cX12_dayEnds 97 = .ok (.iconst 0, 1) := by decide +kernel
theorem dX12_dayEnds_98 : decode cX12_dayEnds 98 = .ok (.iaload, 1) := by decide +kernel
theorem dX12_dayEnds_99 : decode cX12_dayEnds 99 = .ok (.if_icmp .ge 35, 3) := by decide +kernel
theorem dX12_dayEnds_102 : decode cX12_dayEnds 102 = .ok (.aload_n 1, 1) := by decide +kernel
theorem dX12_dayEnds_103 : decode cX12_dayEnds 103 = .ok (.bipush 39, 2) := by decide +kernel
theorem dX12_dayEnds_105 : decode cX12_dayEnds 105 = .ok (.iload_n 2, 1) := by decide +kernel
theorem dX12_dayEnds_106 : decode cX12_dayEnds 106 = .ok (.iadd, 1) := by decide +kernel
theorem dX12_dayEnds_107 : decode cX12_dayEnds 107 = .ok (.bipush 99, 2) := by decide +kernel
theorem dX12_dayEnds_109 : decode cX12_dayEnds 109 = .ok (.aload_n 1, 1) := by decide +kernel
theorem dX12_dayEnds_110 : decode cX12_dayEnds 110 = .ok (.bipush 39, 2) := by decide +kernel
theorem dX12_dayEnds_112 : decode cX12_dayEnds 112 = .ok (.iload_n 2, 1) := by decide +kernel
theorem dX12_dayEnds_113 : decode cX12_dayEnds 113 = .ok (.iadd, 1) := by decide +kernel
theorem dX12_dayEnds_114 : decode cX12_dayEnds 114 = .ok (.iaload, 1) := by decide +kernel
theorem dX12_dayEnds_115 : decode cX12_dayEnds 115 = .ok (.aload_n 0, 1) := by decide +kernel
theorem dX12_dayEnds_116 : decode cX12_dayEnds 116 = .ok (.getfield 31, 3) := by decide +kernel
theorem dX12_dayEnds_119 : decode cX12_dayEnds 119 = .ok (.iload_n 2, 1) := by decide +kernel
theorem dX12_dayEnds_120 : decode cX12_dayEnds 120 = .ok (.aaload, 1) := by decide +kernel
theorem dX12_dayEnds_121 : decode cX12_dayEnds 121 = .ok (.iconst 1, 1) := by decide +kernel
theorem dX12_dayEnds_122 : decode cX12_dayEnds 122 = .ok (.iaload, 1) := by decide +kernel
theorem dX12_dayEnds_123 : decode cX12_dayEnds 123 = .ok (.iadd, 1) := by decide +kernel
theorem dX12_dayEnds_124 : decode cX12_dayEnds 124 = .ok (.invokestatic 247, 3) := by decide +kernel
theorem dX12_dayEnds_127 : decode cX12_dayEnds 127 = .ok (.iastore, 1) := by decide +kernel
theorem dX12_dayEnds_128 : decode cX12_dayEnds 128 = .ok (.iinc 2 1, 3) := by decide +kernel
theorem dX12_dayEnds_131 : decode cX12_dayEnds 131 = .ok (.goto (-39), 3) := by decide +kernel
theorem dX12_dayEnds_134 : decode cX12_dayEnds 134 = .ok (.aload_n 1, 1) := by decide +kernel
theorem dX12_dayEnds_135 : decode cX12_dayEnds 135 = .ok (.bipush 82, 2) := by decide +kernel
theorem dX12_dayEnds_137 : decode cX12_dayEnds 137 = .ok (.dup2, 1) := by decide +kernel
theorem dX12_dayEnds_138 : decode cX12_dayEnds 138 = .ok (.iaload, 1) := by decide +kernel
theorem dX12_dayEnds_139 : decode cX12_dayEnds 139 = .ok (.iconst 1, 1) := by decide +kernel
theorem dX12_dayEnds_140 : decode cX12_dayEnds 140 = .ok (.iadd, 1) := by decide +kernel
theorem dX12_dayEnds_141 : decode cX12_dayEnds 141 = .ok (.iastore, 1) := by decide +kernel
theorem dX12_dayEnds_142 : decode cX12_dayEnds 142 = .ok (.return_, 1) := by decide +kernel
theorem dX12_does_0 : decode cX12_does 0 = .ok (.aload_n 2, 1) := by decide +kernel
theorem dX12_does_1 : decode cX12_does 1 = .ok (.iconst 1, 1) := by decide +kernel
theorem dX12_does_2 : decode cX12_does 2 = .ok (.iaload, 1) := by decide +kernel
theorem dX12_does_3 : decode cX12_does 3 = .ok (.istore_n 3, 1) := by decide +kernel
theorem dX12_does_4 : decode cX12_does 4 = .ok (.aload_n 2, 1) := by decide +kernel
theorem dX12_does_5 : decode cX12_does 5 = .ok (.iconst 0, 1) := by decide +kernel
theorem dX12_does_6 : decode cX12_does 6 = .ok (.iaload, 1) := by decide +kernel
theorem dX12_does_7 : decode cX12_does 7 = .ok (.tableswitch 145 0 4 #[33, 39, 48, 102, 109], 33) := by decide +kernel
theorem dX12_does_40 : decode cX12_does 40 = .ok (.aload_n 1, 1) := by decide +kernel
theorem dX12_does_41 : decode cX12_does 41 = .ok (.iload_n 3, 1) := by decide +kernel
theorem dX12_does_42 : decode cX12_does 42 = .ok (.invokestatic 300, 3) := by decide +kernel
theorem dX12_does_45 : decode cX12_does 45 = .ok (.ireturn, 1) := by decide +kernel
theorem dX12_does_46 : decode cX12_does 46 = .ok (.aload_n 1, 1) := by decide +kernel
theorem dX12_does_47 : decode cX12_does 47 = .ok (.iload_n 3, 1) := by decide +kernel
theorem dX12_does_48 : decode cX12_does 48 = .ok (.aload_n 2, 1) := by decide +kernel
theorem dX12_does_49 : decode cX12_does 49 = .ok (.iconst 2, 1) := by decide +kernel
theorem dX12_does_50 : decode cX12_does 50 = .ok (.iaload, 1) := by decide +kernel
theorem dX12_does_51 : decode cX12_does 51 = .ok (.invokestatic 303, 3) := by decide +kernel
theorem dX12_does_54 : decode cX12_does 54 = .ok (.ireturn, 1) := by decide +kernel
theorem dX12_does_55 : decode cX12_does 55 = .ok (.aload_n 1, 1) := by decide +kernel
theorem dX12_does_56 : decode cX12_does 56 = .ok (.iload_n 3, 1) := by decide +kernel
theorem dX12_does_57 : decode cX12_does 57 = .ok (.invokestatic 300, 3) := by decide +kernel
theorem dX12_does_60 : decode cX12_does 60 = .ok (.ifCond .ne 5, 3) := by decide +kernel
theorem dX12_does_63 : decode cX12_does 63 = .ok (.iconst 0, 1) := by decide +kernel
theorem dX12_does_64 : decode cX12_does 64 = .ok (.ireturn, 1) := by decide +kernel
theorem dX12_does_65 : decode cX12_does 65 = .ok (.aload_n 0, 1) := by decide +kernel
theorem dX12_does_66 : decode cX12_does 66 = .ok (.aload_n 1, 1) := by decide +kernel
theorem dX12_does_67 : decode cX12_does 67 = .ok (.aload_n 0, 1) := by decide +kernel
theorem dX12_does_68 : decode cX12_does 68 = .ok (.getfield 37, 3) := by decide +kernel
theorem dX12_does_71 : decode cX12_does 71 = .ok (.iload_n 3, 1) := by decide +kernel
theorem dX12_does_72 : decode cX12_does 72 = .ok (.aaload, 1) := by decide +kernel
theorem dX12_does_73 : decode cX12_does 73 = .ok (.iconst 0, 1) := by decide +kernel
theorem dX12_does_74 : decode cX12_does 74 = .ok (.iaload, 1) := by decide +kernel
theorem dX12_does_75 : decode cX12_does 75 = .ok (.aload_n 0, 1) := by decide +kernel
theorem dX12_does_76 : decode cX12_does 76 = .ok (.getfield 37, 3) := by decide +kernel
theorem dX12_does_79 : decode cX12_does 79 = .ok (.iload_n 3, 1) := by decide +kernel
theorem dX12_does_80 : decode cX12_does 80 = .ok (.aaload, 1) := by decide +kernel
theorem dX12_does_81 : decode cX12_does 81 = .ok (.iconst 1, 1) := by decide +kernel
theorem dX12_does_82 : decode cX12_does 82 = .ok (.iaload, 1) := by decide +kernel
theorem dX12_does_83 : decode cX12_does 83 = .ok (.invokevirtual 307, 3) := by decide +kernel
theorem dX12_does_86 : decode cX12_does 86 = .ok (.aload_n 0, 1) := by decide +kernel
theorem dX12_does_87 : decode cX12_does 87 = .ok (.aload_n 1, 1) := by decide +kernel
theorem dX12_does_88 : decode cX12_does 88 = .ok (.aload_n 0, 1) := by decide +kernel
theorem dX12_does_89 : decode cX12_does 89 = .ok (.getfield 37, 3) := by decide +kernel
theorem dX12_does_92 : decode cX12_does 92 = .ok (.iload_n 3, 1) := by decide +kernel
theorem dX12_does_93 : decode cX12_does 93 = .ok (.aaload, 1) := by decide +kernel
theorem dX12_does_94 : decode cX12_does 94 = .ok (.iconst 1, 1) := by decide +kernel
theorem dX12_does_95 : decode cX12_does 95 = .ok (.iaload, 1) := by decide +kernel
theorem dX12_does_96 : decode cX12_does 96 = .ok (.aload_n 0, 1) := by decide +kernel
theorem dX12_does_97 : decode cX12_does 97 = .ok (.getfield 37, 3) := by decide +kernel
theorem dX12_does_100 : decode cX12_does 100 = .ok (.iload_n 3, 1) := by decide +kernel
theorem dX12_does_101 : decode cX12_does 101 = .ok (.aaload, 1) := by decide +kernel
theorem dX12_does_102 : decode cX12_does 102 = .ok (.iconst 0, 1) := by decide +kernel
theorem dX12_does_103 : decode cX12_does 103 = .ok (.iaload, 1) := by decide +kernel
theorem dX12_does_104 : decode cX12_does 104 = .ok (.invokevirtual 307, 3) := by decide +kernel
theorem dX12_does_107 : decode cX12_does 107 = .ok (.iconst 1, 1) := by decide +kernel
theorem dX12_does_108 : decode cX12_does 108 = .ok (.ireturn, 1) := by decide +kernel
theorem dX12_does_109 : decode cX12_does 109 = .ok (.aload_n 0, 1) := by decide +kernel
theorem dX12_does_110 : decode cX12_does 110 = .ok (.aload_n 1, 1) := by decide +kernel
theorem dX12_does_111 : decode cX12_does 111 = .ok (.iload_n 3, 1) := by decide +kernel
theorem dX12_does_112 : decode cX12_does 112 = .ok (.invokevirtual 311, 3) := by decide +kernel
theorem dX12_does_115 : decode cX12_does 115 = .ok (.ireturn, 1) := by decide +kernel
theorem dX12_does_116 : decode cX12_does 116 = .ok (.aload_n 1, 1) := by decide +kernel
theorem dX12_does_117 : decode cX12_does 117 = .ok (.bipush 39, 2) := by decide +kernel
theorem dX12_does_119 : decode cX12_does 119 = .ok (.iload_n 3, 1) := by decide +kernel
theorem dX12_does_120 : decode cX12_does 120 = .ok (.iadd, 1) := by decide +kernel
theorem dX12_does_121 : decode cX12_does 121 = .ok (.iaload, 1) := by decide +kernel
theorem dX12_does_122 : decode cX12_does 122 = .ok (.bipush 99, 2) := by decide +kernel
theorem dX12_does_124 : decode cX12_does 124 = .ok (.if_icmp .ne 5, 3) := by decide +kernel
theorem dX12_does_127 : decode cX12_does 127 = .ok (.iconst 0, 1) := by decide +kernel
theorem dX12_does_128 : decode cX12_does 128 = .ok (.ireturn, 1) := by decide +kernel
theorem dX12_does_129 : decode cX12_does 129 = .ok (.aload_n 1, 1) := by decide +kernel
theorem dX12_does_130 : decode cX12_does 130 = .ok (.bipush 39, 2) := by decide +kernel
theorem dX12_does_132 : decode cX12_does 132 = .ok (.iload_n 3, 1) := by decide +kernel
theorem dX12_does_133 : decode cX12_does 133 = .ok (.iadd, 1) := by decide +kernel
theorem dX12_does_134 : decode cX12_does 134 = .ok (.bipush 99, 2) := by decide +kernel
theorem dX12_does_136 : decode cX12_does 136 = .ok (.aload_n 1, 1) := by decide +kernel
theorem dX12_does_137 : decode cX12_does 137 = .ok (.bipush 39, 2) := by decide +kernel
theorem dX12_does_139 : decode cX12_does 139 = .ok (.iload_n 3, 1) := by decide +kernel
theorem dX12_does_140 : decode cX12_does 140 = .ok (.iadd, 1) := by decide +kernel
theorem dX12_does_141 : decode cX12_does 141 = .ok (.iaload, 1) := by decide +kernel
theorem dX12_does_142 : decode cX12_does 142 = .ok (.aload_n 2, 1) := by decide +kernel
theorem dX12_does_143 : decode cX12_does 143 = .ok (.iconst 2, 1) := by decide +kernel
theorem dX12_does_144 : decode cX12_does 144 = .ok (.iaload, 1) := by decide +kernel
theorem dX12_does_145 : decode cX12_does 145 = .ok (.iadd, 1) := by decide +kernel
theorem dX12_does_146 : decode cX12_does 146 = .ok (.invokestatic 247, 3) := by decide +kernel
theorem dX12_does_149 : decode cX12_does 149 = .ok (.iastore, 1) := by decide +kernel
theorem dX12_does_150 : decode cX12_does 150 = .ok (.iconst 1, 1) := by decide +kernel
theorem dX12_does_151 : decode cX12_does 151 = .ok (.ireturn, 1) := by decide +kernel
theorem dX12_does_152 : decode cX12_does 152 = .ok (.aload_n 1, 1) := by decide +kernel
theorem dX12_does_153 : decode cX12_does 153 = .ok (.bipush 82, 2) := by decide +kernel
theorem dX12_does_155 : decode cX12_does 155 = .ok (.iaload, 1) := by decide +kernel
theorem dX12_does_156 : decode cX12_does 156 = .ok (.sipush 400, 3) := by decide +kernel
theorem dX12_does_159 : decode cX12_does 159 = .ok (.if_icmp .lt 5, 3) := by decide +kernel
theorem dX12_does_162 : decode cX12_does 162 = .ok (.iconst 0, 1) := by decide +kernel
theorem dX12_does_163 : decode cX12_does 163 = .ok (.ireturn, 1) := by decide +kernel
theorem dX12_does_164 : decode cX12_does 164 = .ok (.aload_n 0, 1) := by decide +kernel
theorem dX12_does_165 : decode cX12_does 165 = .ok (.aload_n 1, 1) := by decide +kernel
theorem dX12_does_166 : decode cX12_does 166 = .ok (.invokevirtual 314, 3) := by decide +kernel
theorem dX12_does_169 : decode cX12_does 169 = .ok (.iconst 1, 1) := by decide +kernel
theorem dX12_does_170 : decode cX12_does 170 = .ok (.ireturn, 1) := by decide +kernel
theorem dX12_goes_0 : decode cX12_goes 0 = .ok (.iload_n 1, 1) := by decide +kernel
theorem dX12_goes_1 : decode cX12_goes 1 = .ok (.istore_n 3, 1) := by decide +kernel
theorem dX12_goes_2 : decode cX12_goes 2 = .ok (.iload_n 3, 1) := by decide +kernel
theorem dX12_goes_3 : decode cX12_goes 3 = .ok (.iload_n 2, 1) := by decide +kernel
theorem dX12_goes_4 : decode cX12_goes 4 = .ok (.if_icmp .ge 152, 3) := by decide +kernel
theorem dX12_goes_7 : decode cX12_goes 7 = .ok (.aload_n 0, 1) := by decide +kernel
theorem dX12_goes_8 : decode cX12_goes 8 = .ok (.getfield 318, 3) := by decide +kernel
theorem dX12_goes_11 : decode cX12_goes 11 = .ok (.sipush 200, 3) := by decide +kernel
theorem dX12_goes_14 : decode cX12_goes 14 = .ok (.if_icmp .ge 142, 3) := by decide +kernel
theorem dX12_goes_17 : decode cX12_goes 17 = .ok (.aload_n 0, 1) := by decide +kernel
theorem dX12_goes_18 : decode cX12_goes 18 = .ok (.dup, 1) := by decide +kernel
theorem dX12_goes_19 : decode cX12_goes 19 = .ok (.getfield 318, 3) := by decide +kernel
theorem dX12_goes_22 : decode cX12_goes 22 = .ok (.iconst 1, 1) := by decide +kernel
theorem dX12_goes_23 : decode cX12_goes 23 = .ok (.iadd, 1) := by decide +kernel
theorem dX12_goes_24 : decode cX12_goes 24 = .ok (.putfield 318, 3) := by decide +kernel
theorem dX12_goes_27 : decode cX12_goes 27 = .ok (.aload_n 0, 1) := by decide +kernel
theorem dX12_goes_28 : decode cX12_goes 28 = .ok (.getfield 64, 3) := by decide +kernel
theorem dX12_goes_31 : decode cX12_goes 31 = .ok (.iload_n 3, 1) := by decide +kernel
theorem dX12_goes_32 : decode cX12_goes 32 = .ok (.aaload, 1) := by decide +kernel
theorem dX12_goes_33 : decode cX12_goes 33 = .ok (.iconst 0, 1) := by decide +kernel
theorem dX12_goes_34 : decode cX12_goes 34 = .ok (.iaload, 1) := by decide +kernel
theorem dX12_goes_35 : decode cX12_goes 35 = .ok (.bipush 6, 2) := by decide +kernel
theorem dX12_goes_37 : decode cX12_goes 37 = .ok (.if_icmp .ne 53, 3) := by decide +kernel
theorem dX12_goes_40 : decode cX12_goes 40 = .ok (.iconst 0, 1) := by decide +kernel
theorem dX12_goes_41 : decode cX12_goes 41 = .ok (.istore 4, 2) := by decide +kernel
theorem dX12_goes_43 : decode cX12_goes 43 = .ok (.iload 4, 2) := by decide +kernel
theorem dX12_goes_45 : decode cX12_goes 45 = .ok (.aload_n 0, 1) := by decide +kernel
theorem dX12_goes_46 : decode cX12_goes 46 = .ok (.getfield 64, 3) := by decide +kernel
theorem dX12_goes_49 : decode cX12_goes 49 = .ok (.iload_n 3, 1) := by decide +kernel
theorem dX12_goes_50 : decode cX12_goes 50 = .ok (.aaload, 1) := by decide +kernel
theorem dX12_goes_51 : decode cX12_goes 51 = .ok (.iconst 1, 1) := by decide +kernel
theorem dX12_goes_52 : decode cX12_goes 52 = .ok (.iaload, 1) := by decide +kernel
theorem dX12_goes_53 : decode cX12_goes 53 = .ok (.if_icmp .ge 34, 3) := by decide +kernel
theorem dX12_goes_56 : decode cX12_goes 56 = .ok (.aload_n 0, 1) := by decide +kernel
theorem dX12_goes_57 : decode cX12_goes 57 = .ok (.getfield 318, 3) := by decide +kernel
theorem dX12_goes_60 : decode cX12_goes 60 = .ok (.sipush 200, 3) := by decide +kernel
theorem dX12_goes_63 : decode cX12_goes 63 = .ok (.if_icmp .ge 24, 3) := by decide +kernel
theorem dX12_goes_66 : decode cX12_goes 66 = .ok (.aload_n 0, 1) := by decide +kernel
theorem dX12_goes_67 : decode cX12_goes 67 = .ok (.iload_n 3, 1) := by decide +kernel
theorem dX12_goes_68 : decode cX12_goes 68 = .ok (.iconst 1, 1) := by decide +kernel
theorem dX12_goes_69 : decode cX12_goes 69 = .ok (.iadd, 1) := by decide +kernel
theorem dX12_goes_70 : decode cX12_goes 70 = .ok (.aload_n 0, 1) := by decide +kernel
theorem dX12_goes_71 : decode cX12_goes 71 = .ok (.getfield 64, 3) := by decide +kernel
theorem dX12_goes_74 : decode cX12_goes 74 = .ok (.iload_n 3, 1) := by decide +kernel
theorem dX12_goes_75 : decode cX12_goes 75 = .ok (.aaload, 1) := by decide +kernel
theorem dX12_goes_76 : decode cX12_goes 76 = .ok (.iconst 3, 1) := by decide +kernel
theorem dX12_goes_77 : decode cX12_goes 77 = .ok (.iaload, 1) := by decide +kernel
theorem dX12_goes_78 : decode cX12_goes 78 = .ok (.invokevirtual 321, 3) := by decide +kernel
theorem dX12_goes_81 : decode cX12_goes 81 = .ok (.iinc 4 1, 3) := by decide +kernel
theorem dX12_goes_84 : decode cX12_goes 84 = .ok (.goto (-41), 3) := by decide +kernel
theorem dX12_goes_87 : decode cX12_goes 87 = .ok (.goto 57, 3) := by decide +kernel
theorem dX12_goes_90 : decode cX12_goes 90 = .ok (.aload_n 0, 1) := by decide +kernel
theorem dX12_goes_91 : decode cX12_goes 91 = .ok (.aload_n 0, 1) := by decide +kernel
theorem dX12_goes_92 : decode cX12_goes 92 = .ok (.getfield 67, 3) := by decide +kernel
theorem dX12_goes_95 : decode cX12_goes 95 = .ok (.aload_n 0, 1) := by decide +kernel
theorem dX12_goes_96 : decode cX12_goes 96 = .ok (.getfield 64, 3) := by decide +kernel
theorem dX12_goes_99 : decode cX12_goes 99 = .ok (.iload_n 3, 1) := by decide +kernel
theorem dX12_goes_100 : decode cX12_goes 100 = .ok (.aaload, 1) := by decide +kernel
theorem dX12_goes_101 : decode cX12_goes 101 = .ok (.invokevirtual 324, 3) := by decide +kernel
theorem dX12_goes_104 : decode cX12_goes 104 = .ok (.istore 4, 2) := by decide +kernel
theorem dX12_goes_106 : decode cX12_goes 106 = .ok (.aload_n 0, 1) := by decide +kernel
theorem dX12_goes_107 : decode cX12_goes 107 = .ok (.dup, 1) := by decide +kernel
theorem dX12_goes_108 : decode cX12_goes 108 = .ok (.getfield 328, 3) := by decide +kernel
theorem dX12_goes_111 : decode cX12_goes 111 = .ok (.iload 4, 2) := by decide +kernel
theorem dX12_goes_113 : decode cX12_goes 113 = .ok (.ifCond .eq 7, 3) := by decide +kernel
theorem dX12_goes_116 : decode cX12_goes 116 = .ok (.iconst 1, 1) := by decide +kernel
theorem dX12_goes_117 : decode cX12_goes 117 = .ok (.goto 4, 3) := by decide +kernel
theorem dX12_goes_120 : decode cX12_goes 120 = .ok (.iconst 0, 1) := by decide +kernel
theorem dX12_goes_121 : decode cX12_goes 121 = .ok (.iadd, 1) := by decide +kernel
theorem dX12_goes_122 : decode cX12_goes 122 = .ok (.putfield 328, 3) := by decide +kernel
theorem dX12_goes_125 : decode cX12_goes 125 = .ok (.aload_n 0, 1) := by decide +kernel
theorem dX12_goes_126 : decode cX12_goes 126 = .ok (.dup, 1) := by decide +kernel
theorem dX12_goes_127 : decode cX12_goes 127 = .ok (.getfield 213, 3) := by decide +kernel
theorem dX12_goes_130 : decode cX12_goes 130 = .ok (.iload 4, 2) := by decide +kernel
theorem dX12_goes_132 : decode cX12_goes 132 = .ok (.ifCond .eq 7, 3) := by decide +kernel
theorem dX12_goes_135 : decode cX12_goes 135 = .ok (.iconst 0, 1) := by decide +kernel
theorem dX12_goes_136 : decode cX12_goes 136 = .ok (.goto 4, 3) := by decide +kernel
theorem dX12_goes_139 : decode cX12_goes 139 = .ok (.iconst 1, 1) := by decide +kernel
theorem dX12_goes_140 : decode cX12_goes 140 = .ok (.iadd, 1) := by decide +kernel
theorem dX12_goes_141 : decode cX12_goes 141 = .ok (.putfield 213, 3) := by decide +kernel
theorem dX12_goes_144 : decode cX12_goes 144 = .ok (.aload_n 0, 1) := by decide +kernel
theorem dX12_goes_145 : decode cX12_goes 145 = .ok (.getfield 64, 3) := by decide +kernel
theorem dX12_goes_148 : decode cX12_goes 148 = .ok (.iload_n 3, 1) := by decide +kernel
theorem dX12_goes_149 : decode cX12_goes 149 = .ok (.aaload, 1) := by decide +kernel
theorem dX12_goes_150 : decode cX12_goes 150 = .ok (.iconst 3, 1) := by decide +kernel
theorem dX12_goes_151 : decode cX12_goes 151 = .ok (.iaload, 1) := by decide +kernel
theorem dX12_goes_152 : decode cX12_goes 152 = .ok (.istore_n 3, 1) := by decide +kernel
theorem dX12_goes_153 : decode cX12_goes 153 = .ok (.goto (-151), 3) := by decide +kernel
theorem dX12_goes_156 : decode cX12_goes 156 = .ok (.return_, 1) := by decide +kernel
theorem dX12_work_0 : decode cX12_work 0 = .ok (.aload_n 0, 1) := by decide +kernel
theorem dX12_work_1 : decode cX12_work 1 = .ok (.iconst 0, 1) := by decide +kernel
theorem dX12_work_2 : decode cX12_work 2 = .ok (.putfield 104, 3) := by decide +kernel
theorem dX12_work_5 : decode cX12_work 5 = .ok (.aload_n 0, 1) := by decide +kernel
theorem dX12_work_6 : decode cX12_work 6 = .ok (.iload_n 1, 1) := by decide +kernel
theorem dX12_work_7 : decode cX12_work 7 = .ok (.iconst 0, 1) := by decide +kernel
theorem dX12_work_8 : decode cX12_work 8 = .ok (.aload_n 0, 1) := by decide +kernel
theorem dX12_work_9 : decode cX12_work 9 = .ok (.getfield 107, 3) := by decide +kernel
theorem dX12_work_12 : decode cX12_work 12 = .ok (.invokestatic 138, 3) := by decide +kernel
theorem dX12_work_15 : decode cX12_work 15 = .ok (.ifCond .eq 10, 3) := by decide +kernel
theorem dX12_work_18 : decode cX12_work 18 = .ok (.iload_n 1, 1) := by decide +kernel
theorem dX12_work_19 : decode cX12_work 19 = .ok (.sipush 150, 3) := by decide +kernel
theorem dX12_work_22 : decode cX12_work 22 = .ok (.if_icmp .le 7, 3) := by decide +kernel
theorem dX12_work_25 : decode cX12_work 25 = .ok (.iconst 1, 1) := by decide +kernel
theorem dX12_work_26 : decode cX12_work 26 = .ok (.goto 4, 3) := by decide +kernel
theorem dX12_work_29 : decode cX12_work 29 = .ok (.iconst 0, 1) := by decide +kernel
theorem dX12_work_30 : decode cX12_work 30 = .ok (.iconst 1, 1) := by decide +kernel
theorem dX12_work_31 : decode cX12_work 31 = .ok (.iconst 1, 1) := by decide +kernel
theorem dX12_work_32 : decode cX12_work 32 = .ok (.invokevirtual 183, 3) := by decide +kernel
theorem dX12_work_35 : decode cX12_work 35 = .ok (.ifCond .eq 5, 3) := by decide +kernel
theorem dX12_work_38 : decode cX12_work 38 = .ok (.iconst 0, 1) := by decide +kernel
theorem dX12_work_39 : decode cX12_work 39 = .ok (.ireturn, 1) := by decide +kernel
theorem dX12_work_40 : decode cX12_work 40 = .ok (.aload_n 0, 1) := by decide +kernel
theorem dX12_work_41 : decode cX12_work 41 = .ok (.getfield 210, 3) := by decide +kernel
theorem dX12_work_44 : decode cX12_work 44 = .ok (.bipush 16, 2) := by decide +kernel
theorem dX12_work_46 : decode cX12_work 46 = .ok (.if_icmp .ne 16, 3) := by decide +kernel
theorem dX12_work_49 : decode cX12_work 49 = .ok (.aload_n 0, 1) := by decide +kernel
theorem dX12_work_50 : decode cX12_work 50 = .ok (.iconst 0, 1) := by decide +kernel
theorem dX12_work_51 : decode cX12_work 51 = .ok (.putfield 107, 3) := by decide +kernel
theorem dX12_work_54 : decode cX12_work 54 = .ok (.aload_n 0, 1) := by decide +kernel
theorem dX12_work_55 : decode cX12_work 55 = .ok (.iconst (-1), 1) := by decide +kernel
theorem dX12_work_56 : decode cX12_work 56 = .ok (.putfield 9, 3) := by decide +kernel
theorem dX12_work_59 : decode cX12_work 59 = .ok (.bipush (-20), 2) := by decide +kernel
theorem dX12_work_61 : decode cX12_work 61 = .ok (.ireturn, 1) := by decide +kernel
theorem dX12_work_62 : decode cX12_work 62 = .ok (.aload_n 0, 1) := by decide +kernel
theorem dX12_work_63 : decode cX12_work 63 = .ok (.iload_n 1, 1) := by decide +kernel
theorem dX12_work_64 : decode cX12_work 64 = .ok (.invokevirtual 187, 3) := by decide +kernel
theorem dX12_work_67 : decode cX12_work 67 = .ok (.aload_n 0, 1) := by decide +kernel
theorem dX12_work_68 : decode cX12_work 68 = .ok (.iconst 0, 1) := by decide +kernel
theorem dX12_work_69 : decode cX12_work 69 = .ok (.putfield 260, 3) := by decide +kernel
theorem dX12_work_72 : decode cX12_work 72 = .ok (.aload_n 0, 1) := by decide +kernel
theorem dX12_work_73 : decode cX12_work 73 = .ok (.getfield 120, 3) := by decide +kernel
theorem dX12_work_76 : decode cX12_work 76 = .ok (.ifCond .ne 25, 3) := by decide +kernel
theorem dX12_work_79 : decode cX12_work 79 = .ok (.aload_n 0, 1) := by decide +kernel
theorem dX12_work_80 : decode cX12_work 80 = .ok (.getfield 113, 3) := by decide +kernel
theorem dX12_work_83 : decode cX12_work 83 = .ok (.aload_n 0, 1) := by decide +kernel
theorem dX12_work_84 : decode cX12_work 84 = .ok (.getfield 110, 3) := by decide +kernel
theorem dX12_work_87 : decode cX12_work 87 = .ok (.if_icmp .ge 14, 3) := by decide +kernel
theorem dX12_work_90 : decode cX12_work 90 = .ok (.aload_n 0, 1) := by decide +kernel
theorem dX12_work_91 : decode cX12_work 91 = .ok (.invokevirtual 263, 3) := by decide +kernel
theorem dX12_work_94 : decode cX12_work 94 = .ok (.aload_n 0, 1) := by decide +kernel
theorem dX12_work_95 : decode cX12_work 95 = .ok (.invokevirtual 126, 3) := by decide +kernel
theorem dX12_work_98 : decode cX12_work 98 = .ok (.goto (-26), 3) := by decide +kernel
theorem dX12_work_101 : decode cX12_work 101 = .ok (.aload_n 0, 1) := by decide +kernel
theorem dX12_work_102 : decode cX12_work 102 = .ok (.getfield 120, 3) := by decide +kernel
theorem dX12_work_105 : decode cX12_work 105 = .ok (.ifCond .eq 8, 3) := by decide +kernel
theorem dX12_work_108 : decode cX12_work 108 = .ok (.aload_n 0, 1) := by decide +kernel
theorem dX12_work_109 : decode cX12_work 109 = .ok (.invokevirtual 193, 3) := by decide +kernel
theorem dX12_work_112 : decode cX12_work 112 = .ok (.ireturn, 1) := by decide +kernel
theorem dX12_work_113 : decode cX12_work 113 = .ok (.aload_n 0, 1) := by decide +kernel
theorem dX12_work_114 : decode cX12_work 114 = .ok (.iconst (-1), 1) := by decide +kernel
theorem dX12_work_115 : decode cX12_work 115 = .ok (.putfield 9, 3) := by decide +kernel
theorem dX12_work_118 : decode cX12_work 118 = .ok (.aload_n 0, 1) := by decide +kernel
theorem dX12_work_119 : decode cX12_work 119 = .ok (.getfield 67, 3) := by decide +kernel
theorem dX12_work_122 : decode cX12_work 122 = .ok (.aload_n 0, 1) := by decide +kernel
theorem dX12_work_123 : decode cX12_work 123 = .ok (.getfield 76, 3) := by decide +kernel
theorem dX12_work_126 : decode cX12_work 126 = .ok (.aload_n 0, 1) := by decide +kernel
theorem dX12_work_127 : decode cX12_work 127 = .ok (.getfield 210, 3) := by decide +kernel
theorem dX12_work_130 : decode cX12_work 130 = .ok (.aaload, 1) := by decide +kernel
theorem dX12_work_131 : decode cX12_work 131 = .ok (.invokestatic 331, 3) := by decide +kernel
theorem dX12_work_134 : decode cX12_work 134 = .ok (.aload_n 0, 1) := by decide +kernel
theorem dX12_work_135 : decode cX12_work 135 = .ok (.dup, 1) := by decide +kernel
theorem dX12_work_136 : decode cX12_work 136 = .ok (.getfield 210, 3) := by decide +kernel
theorem dX12_work_139 : decode cX12_work 139 = .ok (.iconst 1, 1) := by decide +kernel
theorem dX12_work_140 : decode cX12_work 140 = .ok (.iadd, 1) := by decide +kernel
theorem dX12_work_141 : decode cX12_work 141 = .ok (.putfield 210, 3) := by decide +kernel
theorem dX12_work_144 : decode cX12_work 144 = .ok (.aload_n 0, 1) := by decide +kernel
theorem dX12_work_145 : decode cX12_work 145 = .ok (.iconst 0, 1) := by decide +kernel
theorem dX12_work_146 : decode cX12_work 146 = .ok (.putfield 318, 3) := by decide +kernel
theorem dX12_work_149 : decode cX12_work 149 = .ok (.aload_n 0, 1) := by decide +kernel
theorem dX12_work_150 : decode cX12_work 150 = .ok (.iconst 0, 1) := by decide +kernel
theorem dX12_work_151 : decode cX12_work 151 = .ok (.putfield 328, 3) := by decide +kernel
theorem dX12_work_154 : decode cX12_work 154 = .ok (.aload_n 0, 1) := by decide +kernel
theorem dX12_work_155 : decode cX12_work 155 = .ok (.iconst 0, 1) := by decide +kernel
theorem dX12_work_156 : decode cX12_work 156 = .ok (.putfield 213, 3) := by decide +kernel
theorem dX12_work_159 : decode cX12_work 159 = .ok (.aload_n 0, 1) := by decide +kernel
theorem dX12_work_160 : decode cX12_work 160 = .ok (.iconst 0, 1) := by decide +kernel
theorem dX12_work_161 : decode cX12_work 161 = .ok (.aload_n 0, 1) := by decide +kernel
theorem dX12_work_162 : decode cX12_work 162 = .ok (.getfield 260, 3) := by decide +kernel
theorem dX12_work_165 : decode cX12_work 165 = .ok (.invokevirtual 321, 3) := by decide +kernel
theorem dX12_work_168 : decode cX12_work 168 = .ok (.aload_n 0, 1) := by decide +kernel
theorem dX12_work_169 : decode cX12_work 169 = .ok (.getfield 328, 3) := by decide +kernel
theorem dX12_work_172 : decode cX12_work 172 = .ok (.ireturn, 1) := by decide +kernel
theorem dX12_undo_0 : decode cX12_undo 0 = .ok (.aload_n 0, 1) := by decide +kernel
theorem dX12_undo_1 : decode cX12_undo 1 = .ok (.iconst 0, 1) := by decide +kernel
theorem dX12_undo_2 : decode cX12_undo 2 = .ok (.putfield 104, 3) := by decide +kernel
theorem dX12_undo_5 : decode cX12_undo 5 = .ok (.aload_n 0, 1) := by decide +kernel
theorem dX12_undo_6 : decode cX12_undo 6 = .ok (.getfield 210, 3) := by decide +kernel
theorem dX12_undo_9 : decode cX12_undo 9 = .ok (.ifCond .ne 5, 3) := by decide +kernel
theorem dX12_undo_12 : decode cX12_undo 12 = .ok (.iconst (-1), 1) := by decide +kernel
theorem dX12_undo_13 : decode cX12_undo 13 = .ok (.ireturn, 1) := by decide +kernel
theorem dX12_undo_14 : decode cX12_undo 14 = .ok (.aload_n 0, 1) := by decide +kernel
theorem dX12_undo_15 : decode cX12_undo 15 = .ok (.dup, 1) := by decide +kernel
theorem dX12_undo_16 : decode cX12_undo 16 = .ok (.getfield 210, 3) := by decide +kernel
theorem dX12_undo_19 : decode cX12_undo 19 = .ok (.iconst 1, 1) := by decide +kernel
theorem dX12_undo_20 : decode cX12_undo 20 = .ok (.isub, 1) := by decide +kernel
theorem dX12_undo_21 : decode cX12_undo 21 = .ok (.putfield 210, 3) := by decide +kernel
theorem dX12_undo_24 : decode cX12_undo 24 = .ok (.aload_n 0, 1) := by decide +kernel
theorem dX12_undo_25 : decode cX12_undo 25 = .ok (.getfield 76, 3) := by decide +kernel
theorem dX12_undo_28 : decode cX12_undo 28 = .ok (.aload_n 0, 1) := by decide +kernel
theorem dX12_undo_29 : decode cX12_undo 29 = .ok (.getfield 210, 3) := by decide +kernel
theorem dX12_undo_32 : decode cX12_undo 32 = .ok (.aaload, 1) := by decide +kernel
theorem dX12_undo_33 : decode cX12_undo 33 = .ok (.aload_n 0, 1) := by decide +kernel
theorem dX12_undo_34 : decode cX12_undo 34 = .ok (.getfield 67, 3) := by decide +kernel
theorem dX12_undo_37 : decode cX12_undo 37 = .ok (.invokestatic 331, 3) := by decide +kernel
theorem dX12_undo_40 : decode cX12_undo 40 = .ok (.aload_n 0, 1) := by decide +kernel
theorem dX12_undo_41 : decode cX12_undo 41 = .ok (.iconst 0, 1) := by decide +kernel
theorem dX12_undo_42 : decode cX12_undo 42 = .ok (.putfield 213, 3) := by decide +kernel
theorem dX12_undo_45 : decode cX12_undo 45 = .ok (.aload_n 0, 1) := by decide +kernel
theorem dX12_undo_46 : decode cX12_undo 46 = .ok (.getfield 210, 3) := by decide +kernel
theorem dX12_undo_49 : decode cX12_undo 49 = .ok (.ireturn, 1) := by decide +kernel
theorem dX12_grassIn_0 : decode cX12_grassIn 0 = .ok (.iconst 0, 1) := by decide +kernel
theorem dX12_grassIn_1 : decode cX12_grassIn 1 = .ok (.istore_n 2, 1) := by decide +kernel
theorem dX12_grassIn_2 : decode cX12_grassIn 2 = .ok (.iconst 0, 1) := by decide +kernel
theorem dX12_grassIn_3 : decode cX12_grassIn 3 = .ok (.istore_n 3, 1) := by decide +kernel
theorem dX12_grassIn_4 : decode cX12_grassIn 4 = .ok (.iload_n 3, 1) := by decide +kernel
theorem dX12_grassIn_5 : decode cX12_grassIn 5 = .ok (.aload_n 0, 1) := by decide +kernel
theorem dX12_grassIn_6 : decode cX12_grassIn 6 = .ok (.getfield 23, 3) := by decide +kernel
theorem dX12_grassIn_9 : decode cX12_grassIn 9 = .ok (.iconst 0, 1) := by decide +kernel
theorem dX12_grassIn_10 : decode cX12_grassIn 10 = .ok (.iaload, 1) := by decide +kernel
theorem dX12_grassIn_11 : decode cX12_grassIn 11 = .ok (.if_icmp .ge 18, 3) := by decide +kernel
theorem dX12_grassIn_14 : decode cX12_grassIn 14 = .ok (.iload_n 2, 1) := by decide +kernel
theorem dX12_grassIn_15 : decode cX12_grassIn 15 = .ok (.aload_n 1, 1) := by decide +kernel
theorem dX12_grassIn_16 : decode cX12_grassIn 16 = .ok (.bipush 39, 2) := by decide +kernel
theorem dX12_grassIn_18 : decode cX12_grassIn 18 = .ok (.iload_n 3, 1) := by decide +kernel
theorem dX12_grassIn_19 : decode cX12_grassIn 19 = .ok (.iadd, 1) := by decide +kernel
theorem dX12_grassIn_20 : decode cX12_grassIn 20 = .ok (.iaload, 1) := by decide +kernel
theorem dX12_grassIn_21 : decode cX12_grassIn 21 = .ok (.iadd, 1) := by decide +kernel
theorem dX12_grassIn_22 : decode cX12_grassIn 22 = .ok (.istore_n 2, 1) := by decide +kernel
theorem dX12_grassIn_23 : decode cX12_grassIn 23 = .ok (.iinc 3 1, 3) := by decide +kernel
theorem dX12_grassIn_26 : decode cX12_grassIn 26 = .ok (.goto (-22), 3) := by decide +kernel
theorem dX12_grassIn_29 : decode cX12_grassIn 29 = .ok (.iload_n 2, 1) := by decide +kernel
theorem dX12_grassIn_30 : decode cX12_grassIn 30 = .ok (.ireturn, 1) := by decide +kernel
theorem dX12_weightIn_0 : decode cX12_weightIn 0 = .ok (.iconst 0, 1) := by decide +kernel
theorem dX12_weightIn_1 : decode cX12_weightIn 1 = .ok (.istore_n 1, 1) := by decide +kernel
theorem dX12_weightIn_2 : decode cX12_weightIn 2 = .ok (.iconst 0, 1) := by decide +kernel
theorem dX12_weightIn_3 : decode cX12_weightIn 3 = .ok (.istore_n 2, 1) := by decide +kernel
theorem dX12_weightIn_4 : decode cX12_weightIn 4 = .ok (.iload_n 2, 1) := by decide +kernel
theorem dX12_weightIn_5 : decode cX12_weightIn 5 = .ok (.bipush 12, 2) := by decide +kernel
theorem dX12_weightIn_7 : decode cX12_weightIn 7 = .ok (.if_icmp .gt 17, 3) := by decide +kernel
theorem dX12_weightIn_10 : decode cX12_weightIn 10 = .ok (.iload_n 1, 1) := by decide +kernel
theorem dX12_weightIn_11 : decode cX12_weightIn 11 = .ok (.aload_n 0, 1) := by decide +kernel
theorem dX12_weightIn_12 : decode cX12_weightIn 12 = .ok (.iconst 0, 1) := by decide +kernel
theorem dX12_weightIn_13 : decode cX12_weightIn 13 = .ok (.iload_n 2, 1) := by decide +kernel
theorem dX12_weightIn_14 : decode cX12_weightIn 14 = .ok (.iadd, 1) := by decide +kernel
theorem dX12_weightIn_15 : decode cX12_weightIn 15 = .ok (.iaload, 1) := by decide +kernel
theorem dX12_weightIn_16 : decode cX12_weightIn 16 = .ok (.iadd, 1) := by decide +kernel
theorem dX12_weightIn_17 : decode cX12_weightIn 17 = .ok (.istore_n 1, 1) := by decide +kernel
theorem dX12_weightIn_18 : decode cX12_weightIn 18 = .ok (.iinc 2 1, 3) := by decide +kernel
theorem dX12_weightIn_21 : decode cX12_weightIn 21 = .ok (.goto (-17), 3) := by decide +kernel
theorem dX12_weightIn_24 : decode cX12_weightIn 24 = .ok (.iload_n 1, 1) := by decide +kernel
theorem dX12_weightIn_25 : decode cX12_weightIn 25 = .ok (.ireturn, 1) := by decide +kernel
theorem dX12_eaten_0 : decode cX12_eaten 0 = .ok (.iconst 0, 1) := by decide +kernel
theorem dX12_eaten_1 : decode cX12_eaten 1 = .ok (.istore_n 2, 1) := by decide +kernel
theorem dX12_eaten_2 : decode cX12_eaten 2 = .ok (.iconst 0, 1) := by decide +kernel
theorem dX12_eaten_3 : decode cX12_eaten 3 = .ok (.istore_n 3, 1) := by decide +kernel
theorem dX12_eaten_4 : decode cX12_eaten 4 = .ok (.iload_n 3, 1) := by decide +kernel
theorem dX12_eaten_5 : decode cX12_eaten 5 = .ok (.aload_n 0, 1) := by decide +kernel
theorem dX12_eaten_6 : decode cX12_eaten 6 = .ok (.getfield 23, 3) := by decide +kernel
theorem dX12_eaten_9 : decode cX12_eaten 9 = .ok (.iconst 1, 1) := by decide +kernel
theorem dX12_eaten_10 : decode cX12_eaten 10 = .ok (.iaload, 1) := by decide +kernel
theorem dX12_eaten_11 : decode cX12_eaten 11 = .ok (.if_icmp .ge 33, 3) := by decide +kernel
theorem dX12_eaten_14 : decode cX12_eaten 14 = .ok (.iload_n 2, 1) := by decide +kernel
theorem dX12_eaten_15 : decode cX12_eaten 15 = .ok (.iload_n 1, 1) := by decide +kernel
theorem dX12_eaten_16 : decode cX12_eaten 16 = .ok (.iload_n 3, 1) := by decide +kernel
theorem dX12_eaten_17 : decode cX12_eaten 17 = .ok (.invokestatic 266, 3) := by decide +kernel
theorem dX12_eaten_20 : decode cX12_eaten 20 = .ok (.ifCond .eq 15, 3) := by decide +kernel
theorem dX12_eaten_23 : decode cX12_eaten 23 = .ok (.aload_n 0, 1) := by decide +kernel
theorem dX12_eaten_24 : decode cX12_eaten 24 = .ok (.aload_n 0, 1) := by decide +kernel
theorem dX12_eaten_25 : decode cX12_eaten 25 = .ok (.getfield 67, 3) := by decide +kernel
theorem dX12_eaten_28 : decode cX12_eaten 28 = .ok (.iload_n 3, 1) := by decide +kernel
theorem dX12_eaten_29 : decode cX12_eaten 29 = .ok (.invokevirtual 294, 3) := by decide +kernel
theorem dX12_eaten_32 : decode cX12_eaten 32 = .ok (.goto 4, 3) := by decide +kernel
theorem dX12_eaten_35 : decode cX12_eaten 35 = .ok (.iconst 0, 1) := by decide +kernel
theorem dX12_eaten_36 : decode cX12_eaten 36 = .ok (.iadd, 1) := by decide +kernel
theorem dX12_eaten_37 : decode cX12_eaten 37 = .ok (.istore_n 2, 1) := by decide +kernel
theorem dX12_eaten_38 : decode cX12_eaten 38 = .ok (.iinc 3 1, 3) := by decide +kernel
theorem dX12_eaten_41 : decode cX12_eaten 41 = .ok (.goto (-37), 3) := by decide +kernel
theorem dX12_eaten_44 : decode cX12_eaten 44 = .ok (.iload_n 2, 1) := by decide +kernel
theorem dX12_eaten_45 : decode cX12_eaten 45 = .ok (.ireturn, 1) := by decide +kernel
theorem dX12_told_0 : decode cX12_told 0 = .ok (.aload_n 0, 1) := by decide +kernel
theorem dX12_told_1 : decode cX12_told 1 = .ok (.iconst 0, 1) := by decide +kernel
theorem dX12_told_2 : decode cX12_told 2 = .ok (.putfield 104, 3) := by decide +kernel
theorem dX12_told_5 : decode cX12_told 5 = .ok (.aload_n 0, 1) := by decide +kernel
theorem dX12_told_6 : decode cX12_told 6 = .ok (.iload_n 1, 1) := by decide +kernel
theorem dX12_told_7 : decode cX12_told 7 = .ok (.iconst 0, 1) := by decide +kernel
theorem dX12_told_8 : decode cX12_told 8 = .ok (.bipush 11, 2) := by decide +kernel
theorem dX12_told_10 : decode cX12_told 10 = .ok (.invokestatic 138, 3) := by decide +kernel
theorem dX12_told_13 : decode cX12_told 13 = .ok (.ifCond .ne 7, 3) := by decide +kernel
theorem dX12_told_16 : decode cX12_told 16 = .ok (.iconst 1, 1) := by decide +kernel
theorem dX12_told_17 : decode cX12_told 17 = .ok (.goto 4, 3) := by decide +kernel
theorem dX12_told_20 : decode cX12_told 20 = .ok (.iconst 0, 1) := by decide +kernel
theorem dX12_told_21 : decode cX12_told 21 = .ok (.iconst 1, 1) := by decide +kernel
theorem dX12_told_22 : decode cX12_told 22 = .ok (.iconst 1, 1) := by decide +kernel
theorem dX12_told_23 : decode cX12_told 23 = .ok (.invokevirtual 183, 3) := by decide +kernel
theorem dX12_told_26 : decode cX12_told 26 = .ok (.ifCond .eq 5, 3) := by decide +kernel
theorem dX12_told_29 : decode cX12_told 29 = .ok (.iconst 0, 1) := by decide +kernel
theorem dX12_told_30 : decode cX12_told 30 = .ok (.ireturn, 1) := by decide +kernel
theorem dX12_told_31 : decode cX12_told 31 = .ok (.iconst 0, 1) := by decide +kernel
theorem dX12_told_32 : decode cX12_told 32 = .ok (.istore_n 2, 1) := by decide +kernel
theorem dX12_told_33 : decode cX12_told 33 = .ok (.iconst 0, 1) := by decide +kernel
theorem dX12_told_34 : decode cX12_told 34 = .ok (.istore_n 3, 1) := by decide +kernel
theorem dX12_told_35 : decode cX12_told 35 = .ok (.iload_n 3, 1) := by decide +kernel
theorem dX12_told_36 : decode cX12_told 36 = .ok (.bipush 36, 2) := by decide +kernel
theorem dX12_told_38 : decode cX12_told 38 = .ok (.if_icmp .ge 21, 3) := by decide +kernel
theorem dX12_told_41 : decode cX12_told 41 = .ok (.iload_n 2, 1) := by decide +kernel
theorem dX12_told_42 : decode cX12_told 42 = .ok (.aload_n 0, 1) := by decide +kernel
theorem dX12_told_43 : decode cX12_told 43 = .ok (.getfield 67, 3) := by decide +kernel
theorem dX12_told_46 : decode cX12_told 46 = .ok (.bipush 45, 2) := by decide +kernel
theorem dX12_told_48 : decode cX12_told 48 = .ok (.iload_n 3, 1) := by decide +kernel
theorem dX12_told_49 : decode cX12_told 49 = .ok (.iadd, 1) := by decide +kernel
theorem dX12_told_50 : decode cX12_told 50 = .ok (.iaload, 1) := by decide +kernel
theorem dX12_told_51 : decode cX12_told 51 = .ok (.iadd, 1) := by decide +kernel
theorem dX12_told_52 : decode cX12_told 52 = .ok (.istore_n 2, 1) := by decide +kernel
theorem dX12_told_53 : decode cX12_told 53 = .ok (.iinc 3 1, 3) := by decide +kernel
theorem dX12_told_56 : decode cX12_told 56 = .ok (.goto (-21), 3) := by decide +kernel
theorem dX12_told_59 : decode cX12_told 59 = .ok (.iload_n 1, 1) := by decide +kernel
theorem dX12_told_60 : decode cX12_told 60 = .ok (.tableswitch 130 0 10 #[60, 60, 60, 67, 75, 83, 92, 100, 112, 120, 125], 60) := by decide +kernel
theorem dX12_told_120 : decode cX12_told 120 = .ok (.aload_n 0, 1) := by decide +kernel
theorem dX12_told_121 : decode cX12_told 121 = .ok (.getfield 23, 3) := by decide +kernel
theorem dX12_told_124 : decode cX12_told 124 = .ok (.iload_n 1, 1) := by decide +kernel
theorem dX12_told_125 : decode cX12_told 125 = .ok (.iaload, 1) := by decide +kernel
theorem dX12_told_126 : decode cX12_told 126 = .ok (.ireturn, 1) := by decide +kernel
theorem dX12_told_127 : decode cX12_told 127 = .ok (.aload_n 0, 1) := by decide +kernel
theorem dX12_told_128 : decode cX12_told 128 = .ok (.getfield 67, 3) := by decide +kernel
theorem dX12_told_131 : decode cX12_told 131 = .ok (.bipush 82, 2) := by decide +kernel
theorem dX12_told_133 : decode cX12_told 133 = .ok (.iaload, 1) := by decide +kernel
theorem dX12_told_134 : decode cX12_told 134 = .ok (.ireturn, 1) := by decide +kernel
theorem dX12_told_135 : decode cX12_told 135 = .ok (.aload_n 0, 1) := by decide +kernel
theorem dX12_told_136 : decode cX12_told 136 = .ok (.getfield 67, 3) := by decide +kernel
theorem dX12_told_139 : decode cX12_told 139 = .ok (.invokestatic 335, 3) := by decide +kernel
theorem dX12_told_142 : decode cX12_told 142 = .ok (.ireturn, 1) := by decide +kernel
theorem dX12_told_143 : decode cX12_told 143 = .ok (.aload_n 0, 1) := by decide +kernel
theorem dX12_told_144 : decode cX12_told 144 = .ok (.aload_n 0, 1) := by decide +kernel
theorem dX12_told_145 : decode cX12_told 145 = .ok (.getfield 67, 3) := by decide +kernel
theorem dX12_told_148 : decode cX12_told 148 = .ok (.invokevirtual 339, 3) := by decide +kernel
theorem dX12_told_151 : decode cX12_told 151 = .ok (.ireturn, 1) := by decide +kernel
theorem dX12_told_152 : decode cX12_told 152 = .ok (.aload_n 0, 1) := by decide +kernel
theorem dX12_told_153 : decode cX12_told 153 = .ok (.getfield 67, 3) := by decide +kernel
theorem dX12_told_156 : decode cX12_told 156 = .ok (.invokestatic 342, 3) := by decide +kernel
theorem dX12_told_159 : decode cX12_told 159 = .ok (.ireturn, 1) := by decide +kernel
theorem dX12_told_160 : decode cX12_told 160 = .ok (.aload_n 0, 1) := by decide +kernel
theorem dX12_told_161 : decode cX12_told 161 = .ok (.aload_n 0, 1) := by decide +kernel
theorem dX12_told_162 : decode cX12_told 162 = .ok (.getfield 67, 3) := by decide +kernel
theorem dX12_told_165 : decode cX12_told 165 = .ok (.invokestatic 335, 3) := by decide +kernel
theorem dX12_told_168 : decode cX12_told 168 = .ok (.invokevirtual 345, 3) := by decide +kernel
theorem dX12_told_171 : decode cX12_told 171 = .ok (.ireturn, 1) := by decide +kernel
theorem dX12_told_172 : decode cX12_told 172 = .ok (.aload_n 0, 1) := by decide +kernel
theorem dX12_told_173 : decode cX12_told 173 = .ok (.getfield 67, 3) := by decide +kernel
theorem dX12_told_176 : decode cX12_told 176 = .ok (.bipush 81, 2) := by decide +kernel
theorem dX12_told_178 : decode cX12_told 178 = .ok (.iaload, 1) := by decide +kernel
theorem dX12_told_179 : decode cX12_told 179 = .ok (.ireturn, 1) := by decide +kernel
theorem dX12_told_180 : decode cX12_told 180 = .ok (.aload_n 0, 1) := by decide +kernel
theorem dX12_told_181 : decode cX12_told 181 = .ok (.getfield 207, 3) := by decide +kernel
theorem dX12_told_184 : decode cX12_told 184 = .ok (.ireturn, 1) := by decide +kernel
theorem dX12_told_185 : decode cX12_told 185 = .ok (.aload_n 0, 1) := by decide +kernel
theorem dX12_told_186 : decode cX12_told 186 = .ok (.getfield 213, 3) := by decide +kernel
theorem dX12_told_189 : decode cX12_told 189 = .ok (.ireturn, 1) := by decide +kernel
theorem dX12_told_190 : decode cX12_told 190 = .ok (.iload_n 2, 1) := by decide +kernel
theorem dX12_told_191 : decode cX12_told 191 = .ok (.iconst 2, 1) := by decide +kernel
theorem dX12_told_192 : decode cX12_told 192 = .ok (.idiv, 1) := by decide +kernel
theorem dX12_told_193 : decode cX12_told 193 = .ok (.ireturn, 1) := by decide +kernel
theorem dX12_isFolk_0 : decode cX12_isFolk 0 = .ok (.iload_n 1, 1) := by decide +kernel
theorem dX12_isFolk_1 : decode cX12_isFolk 1 = .ok (.iconst 0, 1) := by decide +kernel
theorem dX12_isFolk_2 : decode cX12_isFolk 2 = .ok (.aload_n 0, 1) := by decide +kernel
theorem dX12_isFolk_3 : decode cX12_isFolk 3 = .ok (.getfield 23, 3) := by decide +kernel
theorem dX12_isFolk_6 : decode cX12_isFolk 6 = .ok (.iconst 0, 1) := by decide +kernel
theorem dX12_isFolk_7 : decode cX12_isFolk 7 = .ok (.iaload, 1) := by decide +kernel
theorem dX12_isFolk_8 : decode cX12_isFolk 8 = .ok (.iconst 1, 1) := by decide +kernel
theorem dX12_isFolk_9 : decode cX12_isFolk 9 = .ok (.isub, 1) := by decide +kernel
theorem dX12_isFolk_10 : decode cX12_isFolk 10 = .ok (.invokestatic 138, 3) := by decide +kernel
theorem dX12_isFolk_13 : decode cX12_isFolk 13 = .ok (.ireturn, 1) := by decide +kernel
theorem dX12_isBeast_0 : decode cX12_isBeast 0 = .ok (.iload_n 1, 1) := by decide +kernel
theorem dX12_isBeast_1 : decode cX12_isBeast 1 = .ok (.iconst 0, 1) := by decide +kernel
theorem dX12_isBeast_2 : decode cX12_isBeast 2 = .ok (.aload_n 0, 1) := by decide +kernel
theorem dX12_isBeast_3 : decode cX12_isBeast 3 = .ok (.getfield 23, 3) := by decide +kernel
theorem dX12_isBeast_6 : decode cX12_isBeast 6 = .ok (.iconst 1, 1) := by decide +kernel
theorem dX12_isBeast_7 : decode cX12_isBeast 7 = .ok (.iaload, 1) := by decide +kernel
theorem dX12_isBeast_8 : decode cX12_isBeast 8 = .ok (.iconst 1, 1) := by decide +kernel
theorem dX12_isBeast_9 : decode cX12_isBeast 9 = .ok (.isub, 1) := by decide +kernel
theorem dX12_isBeast_10 : decode cX12_isBeast 10 = .ok (.invokestatic 138, 3) := by decide +kernel
theorem dX12_isBeast_13 : decode cX12_isBeast 13 = .ok (.ireturn, 1) := by decide +kernel
theorem dX12_sideOf_0 : decode cX12_sideOf 0 = .ok (.iconst 0, 1) := by decide +kernel
theorem dX12_sideOf_1 : decode cX12_sideOf 1 = .ok (.istore_n 3, 1) := by decide +kernel
theorem dX12_sideOf_2 : decode cX12_sideOf 2 = .ok (.iconst 0, 1) := by decide +kernel
theorem dX12_sideOf_3 : decode cX12_sideOf 3 = .ok (.istore 4, 2) := by decide +kernel
theorem dX12_sideOf_5 : decode cX12_sideOf 5 = .ok (.iload 4, 2) := by decide +kernel
theorem dX12_sideOf_7 : decode cX12_sideOf 7 = .ok (.aload_n 0, 1) := by decide +kernel
theorem dX12_sideOf_8 : decode cX12_sideOf 8 = .ok (.getfield 23, 3) := by decide +kernel
theorem dX12_sideOf_11 : decode cX12_sideOf 11 = .ok (.iconst 1, 1) := by decide +kernel
theorem dX12_sideOf_12 : decode cX12_sideOf 12 = .ok (.iaload, 1) := by decide +kernel
theorem dX12_sideOf_13 : decode cX12_sideOf 13 = .ok (.if_icmp .ge 45, 3) := by decide +kernel
theorem dX12_sideOf_16 : decode cX12_sideOf 16 = .ok (.iload_n 3, 1) := by decide +kernel
theorem dX12_sideOf_17 : decode cX12_sideOf 17 = .ok (.aload_n 0, 1) := by decide +kernel
theorem dX12_sideOf_18 : decode cX12_sideOf 18 = .ok (.getfield 67, 3) := by decide +kernel
theorem dX12_sideOf_21 : decode cX12_sideOf 21 = .ok (.iload 4, 2) := by decide +kernel
theorem dX12_sideOf_23 : decode cX12_sideOf 23 = .ok (.invokestatic 273, 3) := by decide +kernel
theorem dX12_sideOf_26 : decode cX12_sideOf 26 = .ok (.ifCond .eq 23, 3) := by decide +kernel
theorem dX12_sideOf_29 : decode cX12_sideOf 29 = .ok (.aload_n 0, 1) := by decide +kernel
theorem dX12_sideOf_30 : decode cX12_sideOf 30 = .ok (.getfield 37, 3) := by decide +kernel
theorem dX12_sideOf_33 : decode cX12_sideOf 33 = .ok (.iload 4, 2) := by decide +kernel
theorem dX12_sideOf_35 : decode cX12_sideOf 35 = .ok (.aaload, 1) := by decide +kernel
theorem dX12_sideOf_36 : decode cX12_sideOf 36 = .ok (.iload_n 2, 1) := by decide +kernel
theorem dX12_sideOf_37 : decode cX12_sideOf 37 = .ok (.iaload, 1) := by decide +kernel
theorem dX12_sideOf_38 : decode cX12_sideOf 38 = .ok (.iload_n 1, 1) := by decide +kernel
theorem dX12_sideOf_39 : decode cX12_sideOf 39 = .ok (.if_icmp .ne 10, 3) := by decide +kernel
theorem dX12_sideOf_42 : decode cX12_sideOf 42 = .ok (.iconst 1, 1) := by decide +kernel
theorem dX12_sideOf_43 : decode cX12_sideOf 43 = .ok (.iload 4, 2) := by decide +kernel
theorem dX12_sideOf_45 : decode cX12_sideOf 45 = .ok (.ishl, 1) := by decide +kernel
theorem dX12_sideOf_46 : decode cX12_sideOf 46 = .ok (.goto 4, 3) := by decide +kernel
theorem dX12_sideOf_49 : decode cX12_sideOf 49 = .ok (.iconst 0, 1) := by decide +kernel
theorem dX12_sideOf_50 : decode cX12_sideOf 50 = .ok (.ior, 1) := by decide +kernel
theorem dX12_sideOf_51 : decode cX12_sideOf 51 = .ok (.istore_n 3, 1) := by decide +kernel
theorem dX12_sideOf_52 : decode cX12_sideOf 52 = .ok (.iinc 4 1, 3) := by decide +kernel
theorem dX12_sideOf_55 : decode cX12_sideOf 55 = .ok (.goto (-50), 3) := by decide +kernel
theorem dX12_sideOf_58 : decode cX12_sideOf 58 = .ok (.iload_n 3, 1) := by decide +kernel
theorem dX12_sideOf_59 : decode cX12_sideOf 59 = .ok (.ireturn, 1) := by decide +kernel
theorem dX12_folk_0 : decode cX12_folk 0 = .ok (.aload_n 0, 1) := by decide +kernel
theorem dX12_folk_1 : decode cX12_folk 1 = .ok (.iconst 0, 1) := by decide +kernel
theorem dX12_folk_2 : decode cX12_folk 2 = .ok (.putfield 104, 3) := by decide +kernel
theorem dX12_folk_5 : decode cX12_folk 5 = .ok (.aload_n 0, 1) := by decide +kernel
theorem dX12_folk_6 : decode cX12_folk 6 = .ok (.aload_n 0, 1) := by decide +kernel
theorem dX12_folk_7 : decode cX12_folk 7 = .ok (.iload_n 1, 1) := by decide +kernel
theorem dX12_folk_8 : decode cX12_folk 8 = .ok (.invokevirtual 348, 3) := by decide +kernel
theorem dX12_folk_11 : decode cX12_folk 11 = .ok (.ifCond .ne 7, 3) := by decide +kernel
theorem dX12_folk_14 : decode cX12_folk 14 = .ok (.iconst 1, 1) := by decide +kernel
theorem dX12_folk_15 : decode cX12_folk 15 = .ok (.goto 4, 3) := by decide +kernel
theorem dX12_folk_18 : decode cX12_folk 18 = .ok (.iconst 0, 1) := by decide +kernel
theorem dX12_folk_19 : decode cX12_folk 19 = .ok (.iconst 1, 1) := by decide +kernel
theorem dX12_folk_20 : decode cX12_folk 20 = .ok (.iconst 0, 1) := by decide +kernel
theorem dX12_folk_21 : decode cX12_folk 21 = .ok (.invokevirtual 183, 3) := by decide +kernel
theorem dX12_folk_24 : decode cX12_folk 24 = .ok (.ifCond .ne 26, 3) := by decide +kernel
theorem dX12_folk_27 : decode cX12_folk 27 = .ok (.aload_n 0, 1) := by decide +kernel
theorem dX12_folk_28 : decode cX12_folk 28 = .ok (.iload_n 2, 1) := by decide +kernel
theorem dX12_folk_29 : decode cX12_folk 29 = .ok (.iconst 0, 1) := by decide +kernel
theorem dX12_folk_30 : decode cX12_folk 30 = .ok (.iconst 5, 1) := by decide +kernel
theorem dX12_folk_31 : decode cX12_folk 31 = .ok (.invokestatic 138, 3) := by decide +kernel
theorem dX12_folk_34 : decode cX12_folk 34 = .ok (.ifCond .ne 7, 3) := by decide +kernel
theorem dX12_folk_37 : decode cX12_folk 37 = .ok (.iconst 1, 1) := by decide +kernel
theorem dX12_folk_38 : decode cX12_folk 38 = .ok (.goto 4, 3) := by decide +kernel
theorem dX12_folk_41 : decode cX12_folk 41 = .ok (.iconst 0, 1) := by decide +kernel
theorem dX12_folk_42 : decode cX12_folk 42 = .ok (.iconst 2, 1) := by decide +kernel
theorem dX12_folk_43 : decode cX12_folk 43 = .ok (.iconst 1, 1) := by decide +kernel
theorem dX12_folk_44 : decode cX12_folk 44 = .ok (.invokevirtual 183, 3) := by decide +kernel
theorem dX12_folk_47 : decode cX12_folk 47 = .ok (.ifCond .eq 5, 3) := by decide +kernel
theorem dX12_folk_50 : decode cX12_folk 50 = .ok (.iconst 0, 1) := by decide +kernel
theorem dX12_folk_51 : decode cX12_folk 51 = .ok (.ireturn, 1) := by decide +kernel
theorem dX12_folk_52 : decode cX12_folk 52 = .ok (.iload_n 2, 1) := by decide +kernel
theorem dX12_folk_53 : decode cX12_folk 53 = .ok (.tableswitch 77 0 4 #[35, 45, 54, 63, 70], 35) := by decide +kernel
theorem dX12_folk_88 : decode cX12_folk 88 = .ok (.aload_n 0, 1) := by decide +kernel
theorem dX12_folk_89 : decode cX12_folk 89 = .ok (.getfield 67, 3) := by decide +kernel
theorem dX12_folk_92 : decode cX12_folk 92 = .ok (.bipush 39, 2) := by decide +kernel
theorem dX12_folk_94 : decode cX12_folk 94 = .ok (.iload_n 1, 1) := by decide +kernel
theorem dX12_folk_95 : decode cX12_folk 95 = .ok (.iadd, 1) := by decide +kernel
theorem dX12_folk_96 : decode cX12_folk 96 = .ok (.iaload, 1) := by decide +kernel
theorem dX12_folk_97 : decode cX12_folk 97 = .ok (.ireturn, 1) := by decide +kernel
theorem dX12_folk_98 : decode cX12_folk 98 = .ok (.aload_n 0, 1) := by decide +kernel
theorem dX12_folk_99 : decode cX12_folk 99 = .ok (.getfield 31, 3) := by decide +kernel
theorem dX12_folk_102 : decode cX12_folk 102 = .ok (.iload_n 1, 1) := by decide +kernel
theorem dX12_folk_103 : decode cX12_folk 103 = .ok (.aaload, 1) := by decide +kernel
theorem dX12_folk_104 : decode cX12_folk 104 = .ok (.iconst 1, 1) := by decide +kernel
theorem dX12_folk_105 : decode cX12_folk 105 = .ok (.iaload, 1) := by decide +kernel
theorem dX12_folk_106 : decode cX12_folk 106 = .ok (.ireturn, 1) := by decide +kernel
theorem dX12_folk_107 : decode cX12_folk 107 = .ok (.aload_n 0, 1) := by decide +kernel
theorem dX12_folk_108 : decode cX12_folk 108 = .ok (.getfield 67, 3) := by decide +kernel
theorem dX12_folk_111 : decode cX12_folk 111 = .ok (.iload_n 1, 1) := by decide +kernel
theorem dX12_folk_112 : decode cX12_folk 112 = .ok (.invokestatic 277, 3) := by decide +kernel
theorem dX12_folk_115 : decode cX12_folk 115 = .ok (.ireturn, 1) := by decide +kernel
theorem dX12_folk_116 : decode cX12_folk 116 = .ok (.aload_n 0, 1) := by decide +kernel
theorem dX12_folk_117 : decode cX12_folk 117 = .ok (.iload_n 1, 1) := by decide +kernel
theorem dX12_folk_118 : decode cX12_folk 118 = .ok (.iconst 0, 1) := by decide +kernel
theorem dX12_folk_119 : decode cX12_folk 119 = .ok (.invokevirtual 351, 3) := by decide +kernel
theorem dX12_folk_122 : decode cX12_folk 122 = .ok (.ireturn, 1) := by decide +kernel
theorem dX12_folk_123 : decode cX12_folk 123 = .ok (.aload_n 0, 1) := by decide +kernel
theorem dX12_folk_124 : decode cX12_folk 124 = .ok (.iload_n 1, 1) := by decide +kernel
theorem dX12_folk_125 : decode cX12_folk 125 = .ok (.iconst 1, 1) := by decide +kernel
theorem dX12_folk_126 : decode cX12_folk 126 = .ok (.invokevirtual 351, 3) := by decide +kernel
theorem dX12_folk_129 : decode cX12_folk 129 = .ok (.ireturn, 1) := by decide +kernel
theorem dX12_folk_130 : decode cX12_folk 130 = .ok (.aload_n 0, 1) := by decide +kernel
theorem dX12_folk_131 : decode cX12_folk 131 = .ok (.aload_n 0, 1) := by decide +kernel
theorem dX12_folk_132 : decode cX12_folk 132 = .ok (.getfield 67, 3) := by decide +kernel
theorem dX12_folk_135 : decode cX12_folk 135 = .ok (.iload_n 1, 1) := by decide +kernel
theorem dX12_folk_136 : decode cX12_folk 136 = .ok (.invokestatic 277, 3) := by decide +kernel
theorem dX12_folk_139 : decode cX12_folk 139 = .ok (.invokevirtual 345, 3) := by decide +kernel
theorem dX12_folk_142 : decode cX12_folk 142 = .ok (.ireturn, 1) := by decide +kernel
theorem dX12_beast_0 : decode cX12_beast 0 = .ok (.aload_n 0, 1) := by decide +kernel
theorem dX12_beast_1 : decode cX12_beast 1 = .ok (.iconst 0, 1) := by decide +kernel
theorem dX12_beast_2 : decode cX12_beast 2 = .ok (.putfield 104, 3) := by decide +kernel
theorem dX12_beast_5 : decode cX12_beast 5 = .ok (.aload_n 0, 1) := by decide +kernel
theorem dX12_beast_6 : decode cX12_beast 6 = .ok (.aload_n 0, 1) := by decide +kernel
theorem dX12_beast_7 : decode cX12_beast 7 = .ok (.iload_n 1, 1) := by decide +kernel
theorem dX12_beast_8 : decode cX12_beast 8 = .ok (.invokevirtual 354, 3) := by decide +kernel
theorem dX12_beast_11 : decode cX12_beast 11 = .ok (.ifCond .ne 7, 3) := by decide +kernel
theorem dX12_beast_14 : decode cX12_beast 14 = .ok (.iconst 1, 1) := by decide +kernel
theorem dX12_beast_15 : decode cX12_beast 15 = .ok (.goto 4, 3) := by decide +kernel
theorem dX12_beast_18 : decode cX12_beast 18 = .ok (.iconst 0, 1) := by decide +kernel
theorem dX12_beast_19 : decode cX12_beast 19 = .ok (.iconst 1, 1) := by decide +kernel
theorem dX12_beast_20 : decode cX12_beast 20 = .ok (.iconst 0, 1) := by decide +kernel
theorem dX12_beast_21 : decode cX12_beast 21 = .ok (.invokevirtual 183, 3) := by decide +kernel
theorem dX12_beast_24 : decode cX12_beast 24 = .ok (.ifCond .ne 27, 3) := by decide +kernel
theorem dX12_beast_27 : decode cX12_beast 27 = .ok (.aload_n 0, 1) := by decide +kernel
theorem dX12_beast_28 : decode cX12_beast 28 = .ok (.iload_n 2, 1) := by decide +kernel
theorem dX12_beast_29 : decode cX12_beast 29 = .ok (.iconst 0, 1) := by decide +kernel
theorem dX12_beast_30 : decode cX12_beast 30 = .ok (.bipush 6, 2) := by decide +kernel
theorem dX12_beast_32 : decode cX12_beast 32 = .ok (.invokestatic 138, 3) := by decide +kernel
theorem dX12_beast_35 : decode cX12_beast 35 = .ok (.ifCond .ne 7, 3) := by decide +kernel
theorem dX12_beast_38 : decode cX12_beast 38 = .ok (.iconst 1, 1) := by decide +kernel
theorem dX12_beast_39 : decode cX12_beast 39 = .ok (.goto 4, 3) := by decide +kernel
theorem dX12_beast_42 : decode cX12_beast 42 = .ok (.iconst 0, 1) := by decide +kernel
theorem dX12_beast_43 : decode cX12_beast 43 = .ok (.iconst 2, 1) := by decide +kernel
theorem dX12_beast_44 : decode cX12_beast 44 = .ok (.iconst 1, 1) := by decide +kernel
theorem dX12_beast_45 : decode cX12_beast 45 = .ok (.invokevirtual 183, 3) := by decide +kernel
theorem dX12_beast_48 : decode cX12_beast 48 = .ok (.ifCond .eq 5, 3) := by decide +kernel
theorem dX12_beast_51 : decode cX12_beast 51 = .ok (.iconst 0, 1) := by decide +kernel
theorem dX12_beast_52 : decode cX12_beast 52 = .ok (.ireturn, 1) := by decide +kernel
theorem dX12_beast_53 : decode cX12_beast 53 = .ok (.iload_n 2, 1) := by decide +kernel
theorem dX12_beast_54 : decode cX12_beast 54 = .ok (.tableswitch 76 0 5 #[38, 38, 38, 47, 56, 66], 38) := by decide +kernel
theorem dX12_beast_92 : decode cX12_beast 92 = .ok (.aload_n 0, 1) := by decide +kernel
theorem dX12_beast_93 : decode cX12_beast 93 = .ok (.getfield 37, 3) := by decide +kernel
theorem dX12_beast_96 : decode cX12_beast 96 = .ok (.iload_n 1, 1) := by decide +kernel
theorem dX12_beast_97 : decode cX12_beast 97 = .ok (.aaload, 1) := by decide +kernel
theorem dX12_beast_98 : decode cX12_beast 98 = .ok (.iload_n 2, 1) := by decide +kernel
theorem dX12_beast_99 : decode cX12_beast 99 = .ok (.iaload, 1) := by decide +kernel
theorem dX12_beast_100 : decode cX12_beast 100 = .ok (.ireturn, 1) := by decide +kernel
theorem dX12_beast_101 : decode cX12_beast 101 = .ok (.aload_n 0, 1) := by decide +kernel
theorem dX12_beast_102 : decode cX12_beast 102 = .ok (.getfield 67, 3) := by decide +kernel
theorem dX12_beast_105 : decode cX12_beast 105 = .ok (.iconst 0, 1) := by decide +kernel
theorem dX12_beast_106 : decode cX12_beast 106 = .ok (.iload_n 1, 1) := by decide +kernel
theorem dX12_beast_107 : decode cX12_beast 107 = .ok (.iadd, 1) := by decide +kernel
theorem dX12_beast_108 : decode cX12_beast 108 = .ok (.iaload, 1) := by decide +kernel
theorem dX12_beast_109 : decode cX12_beast 109 = .ok (.ireturn, 1) := by decide +kernel
theorem dX12_beast_110 : decode cX12_beast 110 = .ok (.aload_n 0, 1) := by decide +kernel
theorem dX12_beast_111 : decode cX12_beast 111 = .ok (.getfield 67, 3) := by decide +kernel
theorem dX12_beast_114 : decode cX12_beast 114 = .ok (.bipush 26, 2) := by decide +kernel
theorem dX12_beast_116 : decode cX12_beast 116 = .ok (.iload_n 1, 1) := by decide +kernel
theorem dX12_beast_117 : decode cX12_beast 117 = .ok (.iadd, 1) := by decide +kernel
theorem dX12_beast_118 : decode cX12_beast 118 = .ok (.iaload, 1) := by decide +kernel
theorem dX12_beast_119 : decode cX12_beast 119 = .ok (.ireturn, 1) := by decide +kernel
theorem dX12_beast_120 : decode cX12_beast 120 = .ok (.aload_n 0, 1) := by decide +kernel
theorem dX12_beast_121 : decode cX12_beast 121 = .ok (.getfield 67, 3) := by decide +kernel
theorem dX12_beast_124 : decode cX12_beast 124 = .ok (.bipush 13, 2) := by decide +kernel
theorem dX12_beast_126 : decode cX12_beast 126 = .ok (.iload_n 1, 1) := by decide +kernel
theorem dX12_beast_127 : decode cX12_beast 127 = .ok (.iadd, 1) := by decide +kernel
theorem dX12_beast_128 : decode cX12_beast 128 = .ok (.iaload, 1) := by decide +kernel
theorem dX12_beast_129 : decode cX12_beast 129 = .ok (.ireturn, 1) := by decide +kernel
theorem dX12_beast_130 : decode cX12_beast 130 = .ok (.aload_n 0, 1) := by decide +kernel
theorem dX12_beast_131 : decode cX12_beast 131 = .ok (.aload_n 0, 1) := by decide +kernel
theorem dX12_beast_132 : decode cX12_beast 132 = .ok (.getfield 67, 3) := by decide +kernel
theorem dX12_beast_135 : decode cX12_beast 135 = .ok (.iload_n 1, 1) := by decide +kernel
theorem dX12_beast_136 : decode cX12_beast 136 = .ok (.invokevirtual 294, 3) := by decide +kernel
theorem dX12_beast_139 : decode cX12_beast 139 = .ok (.ireturn, 1) := by decide +kernel
theorem dX12_fair_0 : decode cX12_fair 0 = .ok (.aload_n 0, 1) := by decide +kernel
theorem dX12_fair_1 : decode cX12_fair 1 = .ok (.iconst 0, 1) := by decide +kernel
theorem dX12_fair_2 : decode cX12_fair 2 = .ok (.putfield 104, 3) := by decide +kernel
theorem dX12_fair_5 : decode cX12_fair 5 = .ok (.aload_n 0, 1) := by decide +kernel
theorem dX12_fair_6 : decode cX12_fair 6 = .ok (.iload_n 1, 1) := by decide +kernel
theorem dX12_fair_7 : decode cX12_fair 7 = .ok (.iconst 0, 1) := by decide +kernel
theorem dX12_fair_8 : decode cX12_fair 8 = .ok (.aload_n 0, 1) := by decide +kernel
theorem dX12_fair_9 : decode cX12_fair 9 = .ok (.getfield 23, 3) := by decide +kernel
theorem dX12_fair_12 : decode cX12_fair 12 = .ok (.iconst 2, 1) := by decide +kernel
theorem dX12_fair_13 : decode cX12_fair 13 = .ok (.iaload, 1) := by decide +kernel
theorem dX12_fair_14 : decode cX12_fair 14 = .ok (.iconst 1, 1) := by decide +kernel
theorem dX12_fair_15 : decode cX12_fair 15 = .ok (.isub, 1) := by decide +kernel
theorem dX12_fair_16 : decode cX12_fair 16 = .ok (.invokestatic 138, 3) := by decide +kernel
theorem dX12_fair_19 : decode cX12_fair 19 = .ok (.ifCond .ne 7, 3) := by decide +kernel
theorem dX12_fair_22 : decode cX12_fair 22 = .ok (.iconst 1, 1) := by decide +kernel
theorem dX12_fair_23 : decode cX12_fair 23 = .ok (.goto 4, 3) := by decide +kernel
theorem dX12_fair_26 : decode cX12_fair 26 = .ok (.iconst 0, 1) := by decide +kernel
theorem dX12_fair_27 : decode cX12_fair 27 = .ok (.iconst 1, 1) := by decide +kernel
theorem dX12_fair_28 : decode cX12_fair 28 = .ok (.iconst 0, 1) := by decide +kernel
theorem dX12_fair_29 : decode cX12_fair 29 = .ok (.invokevirtual 183, 3) := by decide +kernel
theorem dX12_fair_32 : decode cX12_fair 32 = .ok (.ifCond .ne 26, 3) := by decide +kernel
theorem dX12_fair_35 : decode cX12_fair 35 = .ok (.aload_n 0, 1) := by decide +kernel
theorem dX12_fair_36 : decode cX12_fair 36 = .ok (.iload_n 2, 1) := by decide +kernel
theorem dX12_fair_37 : decode cX12_fair 37 = .ok (.iconst 0, 1) := by decide +kernel
theorem dX12_fair_38 : decode cX12_fair 38 = .ok (.iconst 2, 1) := by decide +kernel
theorem dX12_fair_39 : decode cX12_fair 39 = .ok (.invokestatic 138, 3) := by decide +kernel
theorem dX12_fair_42 : decode cX12_fair 42 = .ok (.ifCond .ne 7, 3) := by decide +kernel
theorem dX12_fair_45 : decode cX12_fair 45 = .ok (.iconst 1, 1) := by decide +kernel
theorem dX12_fair_46 : decode cX12_fair 46 = .ok (.goto 4, 3) := by decide +kernel
theorem dX12_fair_49 : decode cX12_fair 49 = .ok (.iconst 0, 1) := by decide +kernel
theorem dX12_fair_50 : decode cX12_fair 50 = .ok (.iconst 2, 1) := by decide +kernel
theorem dX12_fair_51 : decode cX12_fair 51 = .ok (.iconst 1, 1) := by decide +kernel
theorem dX12_fair_52 : decode cX12_fair 52 = .ok (.invokevirtual 183, 3) := by decide +kernel
theorem dX12_fair_55 : decode cX12_fair 55 = .ok (.ifCond .eq 5, 3) := by decide +kernel
theorem dX12_fair_58 : decode cX12_fair 58 = .ok (.iconst 0, 1) := by decide +kernel
theorem dX12_fair_59 : decode cX12_fair 59 = .ok (.ireturn, 1) := by decide +kernel
theorem dX12_fair_60 : decode cX12_fair 60 = .ok (.aload_n 0, 1) := by decide +kernel
theorem dX12_fair_61 : decode cX12_fair 61 = .ok (.getfield 43, 3) := by decide +kernel
theorem dX12_fair_64 : decode cX12_fair 64 = .ok (.iload_n 1, 1) := by decide +kernel
theorem dX12_fair_65 : decode cX12_fair 65 = .ok (.aaload, 1) := by decide +kernel
theorem dX12_fair_66 : decode cX12_fair 66 = .ok (.iload_n 2, 1) := by decide +kernel
theorem dX12_fair_67 : decode cX12_fair 67 = .ok (.iaload, 1) := by decide +kernel
theorem dX12_fair_68 : decode cX12_fair 68 = .ok (.ireturn, 1) := by decide +kernel
theorem dX12_cool_0 : decode cX12_cool 0 = .ok (.aload_n 0, 1) := by decide +kernel
theorem dX12_cool_1 : decode cX12_cool 1 = .ok (.iconst 0, 1) := by decide +kernel
theorem dX12_cool_2 : decode cX12_cool 2 = .ok (.putfield 104, 3) := by decide +kernel
theorem dX12_cool_5 : decode cX12_cool 5 = .ok (.aload_n 0, 1) := by decide +kernel
theorem dX12_cool_6 : decode cX12_cool 6 = .ok (.aload_n 0, 1) := by decide +kernel
theorem dX12_cool_7 : decode cX12_cool 7 = .ok (.iload_n 1, 1) := by decide +kernel
theorem dX12_cool_8 : decode cX12_cool 8 = .ok (.invokevirtual 348, 3) := by decide +kernel
theorem dX12_cool_11 : decode cX12_cool 11 = .ok (.ifCond .eq 11, 3) := by decide +kernel
theorem dX12_cool_14 : decode cX12_cool 14 = .ok (.aload_n 0, 1) := by decide +kernel
theorem dX12_cool_15 : decode cX12_cool 15 = .ok (.iload_n 2, 1) := by decide +kernel
theorem dX12_cool_16 : decode cX12_cool 16 = .ok (.invokevirtual 348, 3) := by decide +kernel
theorem dX12_cool_19 : decode cX12_cool 19 = .ok (.ifCond .ne 7, 3) := by decide +kernel
theorem dX12_cool_22 : decode cX12_cool 22 = .ok (.iconst 1, 1) := by decide +kernel
theorem dX12_cool_23 : decode cX12_cool 23 = .ok (.goto 4, 3) := by decide +kernel
theorem dX12_cool_26 : decode cX12_cool 26 = .ok (.iconst 0, 1) := by decide +kernel
theorem dX12_cool_27 : decode cX12_cool 27 = .ok (.iconst 1, 1) := by decide +kernel
theorem dX12_cool_28 : decode cX12_cool 28 = .ok (.iconst 0, 1) := by decide +kernel
theorem dX12_cool_29 : decode cX12_cool 29 = .ok (.invokevirtual 183, 3) := by decide +kernel
theorem dX12_cool_32 : decode cX12_cool 32 = .ok (.ifCond .eq 5, 3) := by decide +kernel
theorem dX12_cool_35 : decode cX12_cool 35 = .ok (.iconst 0, 1) := by decide +kernel
theorem dX12_cool_36 : decode cX12_cool 36 = .ok (.ireturn, 1) := by decide +kernel
theorem dX12_cool_37 : decode cX12_cool 37 = .ok (.aload_n 0, 1) := by decide +kernel
theorem dX12_cool_38 : decode cX12_cool 38 = .ok (.getfield 67, 3) := by decide +kernel
theorem dX12_cool_41 : decode cX12_cool 41 = .ok (.bipush 45, 2) := by decide +kernel
theorem dX12_cool_43 : decode cX12_cool 43 = .ok (.bipush 6, 2) := by decide +kernel
theorem dX12_cool_45 : decode cX12_cool 45 = .ok (.iload_n 1, 1) := by decide +kernel
theorem dX12_cool_46 : decode cX12_cool 46 = .ok (.imul, 1) := by decide +kernel
theorem dX12_cool_47 : decode cX12_cool 47 = .ok (.iadd, 1) := by decide +kernel
theorem dX12_cool_48 : decode cX12_cool 48 = .ok (.iload_n 2, 1) := by decide +kernel
theorem dX12_cool_49 : decode cX12_cool 49 = .ok (.iadd, 1) := by decide +kernel
theorem dX12_cool_50 : decode cX12_cool 50 = .ok (.iaload, 1) := by decide +kernel
theorem dX12_cool_51 : decode cX12_cool 51 = .ok (.ireturn, 1) := by decide +kernel
theorem dX12_would_0 : decode cX12_would 0 = .ok (.aload_n 0, 1) := by decide +kernel
theorem dX12_would_1 : decode cX12_would 1 = .ok (.iconst 0, 1) := by decide +kernel
theorem dX12_would_2 : decode cX12_would 2 = .ok (.putfield 104, 3) := by decide +kernel
theorem dX12_would_5 : decode cX12_would 5 = .ok (.aload_n 0, 1) := by decide +kernel
theorem dX12_would_6 : decode cX12_would 6 = .ok (.iload_n 1, 1) := by decide +kernel
theorem dX12_would_7 : decode cX12_would 7 = .ok (.iconst 1, 1) := by decide +kernel
theorem dX12_would_8 : decode cX12_would 8 = .ok (.bipush 30, 2) := by decide +kernel
theorem dX12_would_10 : decode cX12_would 10 = .ok (.invokestatic 138, 3) := by decide +kernel
theorem dX12_would_13 : decode cX12_would 13 = .ok (.ifCond .eq 79, 3) := by decide +kernel
theorem dX12_would_16 : decode cX12_would 16 = .ok (.iload_n 2, 1) := by decide +kernel
theorem dX12_would_17 : decode cX12_would 17 = .ok (.iconst 0, 1) := by decide +kernel
theorem dX12_would_18 : decode cX12_would 18 = .ok (.iconst 5, 1) := by decide +kernel
theorem dX12_would_19 : decode cX12_would 19 = .ok (.invokestatic 138, 3) := by decide +kernel
theorem dX12_would_22 : decode cX12_would 22 = .ok (.ifCond .eq 70, 3) := by decide +kernel
theorem dX12_would_25 : decode cX12_would 25 = .ok (.iload_n 3, 1) := by decide +kernel
theorem dX12_would_26 : decode cX12_would 26 = .ok (.iconst 0, 1) := by decide +kernel
theorem dX12_would_27 : decode cX12_would 27 = .ok (.sipush 999, 3) := by decide +kernel
theorem dX12_would_30 : decode cX12_would 30 = .ok (.invokestatic 138, 3) := by decide +kernel
theorem dX12_would_33 : decode cX12_would 33 = .ok (.ifCond .eq 59, 3) := by decide +kernel
theorem dX12_would_36 : decode cX12_would 36 = .ok (.iload 4, 2) := by decide +kernel
theorem dX12_would_38 : decode cX12_would 38 = .ok (.iconst 0, 1) := by decide +kernel
theorem dX12_would_39 : decode cX12_would 39 = .ok (.bipush 99, 2) := by decide +kernel
theorem dX12_would_41 : decode cX12_would 41 = .ok (.invokestatic 138, 3) := by decide +kernel
theorem dX12_would_44 : decode cX12_would 44 = .ok (.ifCond .eq 48, 3) := by decide +kernel
theorem dX12_would_47 : decode cX12_would 47 = .ok (.iload 5, 2) := by decide +kernel
theorem dX12_would_49 : decode cX12_would 49 = .ok (.iconst 0, 1) := by decide +kernel
theorem dX12_would_50 : decode cX12_would 50 = .ok (.bipush 12, 2) := by decide +kernel
theorem dX12_would_52 : decode cX12_would 52 = .ok (.invokestatic 138, 3) := by decide +kernel
theorem dX12_would_55 : decode cX12_would 55 = .ok (.ifCond .eq 37, 3) := by decide +kernel
theorem dX12_would_58 : decode cX12_would 58 = .ok (.iload 6, 2) := by decide +kernel
theorem dX12_would_60 : decode cX12_would 60 = .ok (.iconst 0, 1) := by decide +kernel
theorem dX12_would_61 : decode cX12_would 61 = .ok (.bipush 9, 2) := by decide +kernel
theorem dX12_would_63 : decode cX12_would 63 = .ok (.invokestatic 138, 3) := by decide +kernel
theorem dX12_would_66 : decode cX12_would 66 = .ok (.ifCond .eq 26, 3) := by decide +kernel
theorem dX12_would_69 : decode cX12_would 69 = .ok (.iload 7, 2) := by decide +kernel
theorem dX12_would_71 : decode cX12_would 71 = .ok (.iconst 0, 1) := by decide +kernel
theorem dX12_would_72 : decode cX12_would 72 = .ok (.sipush 400, 3) := by decide +kernel
theorem dX12_would_75 : decode cX12_would 75 = .ok (.invokestatic 138, 3) := by decide +kernel
theorem dX12_would_78 : decode cX12_would 78 = .ok (.ifCond .eq 14, 3) := by decide +kernel
theorem dX12_would_81 : decode cX12_would 81 = .ok (.iload 8, 2) := by decide +kernel
theorem dX12_would_83 : decode cX12_would 83 = .ok (.iconst 0, 1) := by decide +kernel
theorem dX12_would_84 : decode cX12_would 84 = .ok (.bipush 12, 2) := by decide +kernel
theorem dX12_would_86 : decode cX12_would 86 = .ok (.invokestatic 138, 3) := by decide +kernel
theorem dX12_would_89 : decode cX12_would 89 = .ok (.ifCond .ne 7, 3) := by decide +kernel
theorem dX12_would_92 : decode cX12_would 92 = .ok (.iconst 1, 1) := by decide +kernel
theorem dX12_would_93 : decode cX12_would 93 = .ok (.goto 4, 3) := by decide +kernel
theorem dX12_would_96 : decode cX12_would 96 = .ok (.iconst 0, 1) := by decide +kernel
theorem dX12_would_97 : decode cX12_would 97 = .ok (.iconst 1, 1) := by decide +kernel
theorem dX12_would_98 : decode cX12_would 98 = .ok (.iconst 1, 1) := by decide +kernel
theorem dX12_would_99 : decode cX12_would 99 = .ok (.invokevirtual 183, 3) := by decide +kernel
theorem dX12_would_102 : decode cX12_would 102 = .ok (.ifCond .eq 5, 3) := by decide +kernel
theorem dX12_would_105 : decode cX12_would 105 = .ok (.iconst 0, 1) := by decide +kernel
theorem dX12_would_106 : decode cX12_would 106 = .ok (.ireturn, 1) := by decide +kernel
theorem dX12_would_107 : decode cX12_would 107 = .ok (.aload_n 0, 1) := by decide +kernel
theorem dX12_would_108 : decode cX12_would 108 = .ok (.iload_n 1, 1) := by decide +kernel
theorem dX12_would_109 : decode cX12_would 109 = .ok (.iload_n 2, 1) := by decide +kernel
theorem dX12_would_110 : decode cX12_would 110 = .ok (.iload_n 3, 1) := by decide +kernel
theorem dX12_would_111 : decode cX12_would 111 = .ok (.iload 4, 2) := by decide +kernel
theorem dX12_would_113 : decode cX12_would 113 = .ok (.iload 5, 2) := by decide +kernel
theorem dX12_would_115 : decode cX12_would 115 = .ok (.iload 6, 2) := by decide +kernel
theorem dX12_would_117 : decode cX12_would 117 = .ok (.iload 7, 2) := by decide +kernel
theorem dX12_would_119 : decode cX12_would 119 = .ok (.iload 8, 2) := by decide +kernel
theorem dX12_would_121 : decode cX12_would 121 = .ok (.invokevirtual 287, 3) := by decide +kernel
theorem dX12_would_124 : decode cX12_would 124 = .ok (.ireturn, 1) := by decide +kernel
theorem dX12_ahead_0 : decode cX12_ahead 0 = .ok (.aload_n 0, 1) := by decide +kernel
theorem dX12_ahead_1 : decode cX12_ahead 1 = .ok (.iconst 0, 1) := by decide +kernel
theorem dX12_ahead_2 : decode cX12_ahead 2 = .ok (.putfield 104, 3) := by decide +kernel
theorem dX12_ahead_5 : decode cX12_ahead 5 = .ok (.aload_n 0, 1) := by decide +kernel
theorem dX12_ahead_6 : decode cX12_ahead 6 = .ok (.iload_n 1, 1) := by decide +kernel
theorem dX12_ahead_7 : decode cX12_ahead 7 = .ok (.iconst 0, 1) := by decide +kernel
theorem dX12_ahead_8 : decode cX12_ahead 8 = .ok (.bipush 99, 2) := by decide +kernel
theorem dX12_ahead_10 : decode cX12_ahead 10 = .ok (.invokestatic 138, 3) := by decide +kernel
theorem dX12_ahead_13 : decode cX12_ahead 13 = .ok (.ifCond .eq 12, 3) := by decide +kernel
theorem dX12_ahead_16 : decode cX12_ahead 16 = .ok (.iload_n 2, 1) := by decide +kernel
theorem dX12_ahead_17 : decode cX12_ahead 17 = .ok (.iconst 0, 1) := by decide +kernel
theorem dX12_ahead_18 : decode cX12_ahead 18 = .ok (.iconst 2, 1) := by decide +kernel
theorem dX12_ahead_19 : decode cX12_ahead 19 = .ok (.invokestatic 138, 3) := by decide +kernel
theorem dX12_ahead_22 : decode cX12_ahead 22 = .ok (.ifCond .ne 7, 3) := by decide +kernel
theorem dX12_ahead_25 : decode cX12_ahead 25 = .ok (.iconst 1, 1) := by decide +kernel
theorem dX12_ahead_26 : decode cX12_ahead 26 = .ok (.goto 4, 3) := by decide +kernel
theorem dX12_ahead_29 : decode cX12_ahead 29 = .ok (.iconst 0, 1) := by decide +kernel
theorem dX12_ahead_30 : decode cX12_ahead 30 = .ok (.iconst 1, 1) := by decide +kernel
theorem dX12_ahead_31 : decode cX12_ahead 31 = .ok (.iconst 1, 1) := by decide +kernel
theorem dX12_ahead_32 : decode cX12_ahead 32 = .ok (.invokevirtual 183, 3) := by decide +kernel
theorem dX12_ahead_35 : decode cX12_ahead 35 = .ok (.ifCond .eq 5, 3) := by decide +kernel
theorem dX12_ahead_38 : decode cX12_ahead 38 = .ok (.iconst 0, 1) := by decide +kernel
theorem dX12_ahead_39 : decode cX12_ahead 39 = .ok (.ireturn, 1) := by decide +kernel
theorem dX12_ahead_40 : decode cX12_ahead 40 = .ok (.aload_n 0, 1) := by decide +kernel
theorem dX12_ahead_41 : decode cX12_ahead 41 = .ok (.getfield 67, 3) := by decide +kernel
theorem dX12_ahead_44 : decode cX12_ahead 44 = .ok (.aload_n 0, 1) := by decide +kernel
theorem dX12_ahead_45 : decode cX12_ahead 45 = .ok (.getfield 70, 3) := by decide +kernel
theorem dX12_ahead_48 : decode cX12_ahead 48 = .ok (.invokestatic 331, 3) := by decide +kernel
theorem dX12_ahead_51 : decode cX12_ahead 51 = .ok (.iconst 0, 1) := by decide +kernel
theorem dX12_ahead_52 : decode cX12_ahead 52 = .ok (.istore_n 3, 1) := by decide +kernel
theorem dX12_ahead_53 : decode cX12_ahead 53 = .ok (.iload_n 3, 1) := by decide +kernel
theorem dX12_ahead_54 : decode cX12_ahead 54 = .ok (.iload_n 1, 1) := by decide +kernel
theorem dX12_ahead_55 : decode cX12_ahead 55 = .ok (.if_icmp .ge 17, 3) := by decide +kernel
theorem dX12_ahead_58 : decode cX12_ahead 58 = .ok (.aload_n 0, 1) := by decide +kernel
theorem dX12_ahead_59 : decode cX12_ahead 59 = .ok (.aload_n 0, 1) := by decide +kernel
theorem dX12_ahead_60 : decode cX12_ahead 60 = .ok (.getfield 70, 3) := by decide +kernel
theorem dX12_ahead_63 : decode cX12_ahead 63 = .ok (.invokevirtual 314, 3) := by decide +kernel
theorem dX12_ahead_66 : decode cX12_ahead 66 = .ok (.iinc 3 1, 3) := by decide +kernel
theorem dX12_ahead_69 : decode cX12_ahead 69 = .ok (.goto (-16), 3) := by decide +kernel
theorem dX12_ahead_72 : decode cX12_ahead 72 = .ok (.iload_n 2, 1) := by decide +kernel
theorem dX12_ahead_73 : decode cX12_ahead 73 = .ok (.ifCond .ne 14, 3) := by decide +kernel
theorem dX12_ahead_76 : decode cX12_ahead 76 = .ok (.aload_n 0, 1) := by decide +kernel
theorem dX12_ahead_77 : decode cX12_ahead 77 = .ok (.aload_n 0, 1) := by decide +kernel
theorem dX12_ahead_78 : decode cX12_ahead 78 = .ok (.getfield 70, 3) := by decide +kernel
theorem dX12_ahead_81 : decode cX12_ahead 81 = .ok (.invokevirtual 339, 3) := by decide +kernel
theorem dX12_ahead_84 : decode cX12_ahead 84 = .ok (.goto 25, 3) := by decide +kernel
theorem dX12_ahead_87 : decode cX12_ahead 87 = .ok (.iload_n 2, 1) := by decide +kernel
theorem dX12_ahead_88 : decode cX12_ahead 88 = .ok (.iconst 1, 1) := by decide +kernel
theorem dX12_ahead_89 : decode cX12_ahead 89 = .ok (.if_icmp .ne 13, 3) := by decide +kernel
theorem dX12_ahead_92 : decode cX12_ahead 92 = .ok (.aload_n 0, 1) := by decide +kernel
theorem dX12_ahead_93 : decode cX12_ahead 93 = .ok (.getfield 70, 3) := by decide +kernel
theorem dX12_ahead_96 : decode cX12_ahead 96 = .ok (.invokestatic 335, 3) := by decide +kernel
theorem dX12_ahead_99 : decode cX12_ahead 99 = .ok (.goto 10, 3) := by decide +kernel
theorem dX12_ahead_102 : decode cX12_ahead 102 = .ok (.aload_n 0, 1) := by decide +kernel
theorem dX12_ahead_103 : decode cX12_ahead 103 = .ok (.getfield 70, 3) := by decide +kernel
theorem dX12_ahead_106 : decode cX12_ahead 106 = .ok (.invokestatic 342, 3) := by decide +kernel
theorem dX12_ahead_109 : decode cX12_ahead 109 = .ok (.ireturn, 1) := by decide +kernel
theorem dX12_bare_0 : decode cX12_bare 0 = .ok (.aload_n 0, 1) := by decide +kernel
theorem dX12_bare_1 : decode cX12_bare 1 = .ok (.iconst 0, 1) := by decide +kernel
theorem dX12_bare_2 : decode cX12_bare 2 = .ok (.putfield 104, 3) := by decide +kernel
theorem dX12_bare_5 : decode cX12_bare 5 = .ok (.aload_n 0, 1) := by decide +kernel
theorem dX12_bare_6 : decode cX12_bare 6 = .ok (.aload_n 0, 1) := by decide +kernel
theorem dX12_bare_7 : decode cX12_bare 7 = .ok (.iload_n 1, 1) := by decide +kernel
theorem dX12_bare_8 : decode cX12_bare 8 = .ok (.invokevirtual 348, 3) := by decide +kernel
theorem dX12_bare_11 : decode cX12_bare 11 = .ok (.ifCond .ne 7, 3) := by decide +kernel
theorem dX12_bare_14 : decode cX12_bare 14 = .ok (.iconst 1, 1) := by decide +kernel
theorem dX12_bare_15 : decode cX12_bare 15 = .ok (.goto 4, 3) := by decide +kernel
theorem dX12_bare_18 : decode cX12_bare 18 = .ok (.iconst 0, 1) := by decide +kernel
theorem dX12_bare_19 : decode cX12_bare 19 = .ok (.iconst 1, 1) := by decide +kernel
theorem dX12_bare_20 : decode cX12_bare 20 = .ok (.iconst 0, 1) := by decide +kernel
theorem dX12_bare_21 : decode cX12_bare 21 = .ok (.invokevirtual 183, 3) := by decide +kernel
theorem dX12_bare_24 : decode cX12_bare 24 = .ok (.ifCond .eq 5, 3) := by decide +kernel
theorem dX12_bare_27 : decode cX12_bare 27 = .ok (.iconst 0, 1) := by decide +kernel
theorem dX12_bare_28 : decode cX12_bare 28 = .ok (.ireturn, 1) := by decide +kernel
theorem dX12_bare_29 : decode cX12_bare 29 = .ok (.aload_n 0, 1) := by decide +kernel
theorem dX12_bare_30 : decode cX12_bare 30 = .ok (.getfield 67, 3) := by decide +kernel
theorem dX12_bare_33 : decode cX12_bare 33 = .ok (.aload_n 0, 1) := by decide +kernel
theorem dX12_bare_34 : decode cX12_bare 34 = .ok (.getfield 70, 3) := by decide +kernel
theorem dX12_bare_37 : decode cX12_bare 37 = .ok (.invokestatic 331, 3) := by decide +kernel
theorem dX12_bare_40 : decode cX12_bare 40 = .ok (.iconst 0, 1) := by decide +kernel
theorem dX12_bare_41 : decode cX12_bare 41 = .ok (.istore_n 2, 1) := by decide +kernel
theorem dX12_bare_42 : decode cX12_bare 42 = .ok (.iload_n 2, 1) := by decide +kernel
theorem dX12_bare_43 : decode cX12_bare 43 = .ok (.bipush 99, 2) := by decide +kernel
theorem dX12_bare_45 : decode cX12_bare 45 = .ok (.if_icmp .gt 31, 3) := by decide +kernel
theorem dX12_bare_48 : decode cX12_bare 48 = .ok (.aload_n 0, 1) := by decide +kernel
theorem dX12_bare_49 : decode cX12_bare 49 = .ok (.getfield 70, 3) := by decide +kernel
theorem dX12_bare_52 : decode cX12_bare 52 = .ok (.bipush 39, 2) := by decide +kernel
theorem dX12_bare_54 : decode cX12_bare 54 = .ok (.iload_n 1, 1) := by decide +kernel
theorem dX12_bare_55 : decode cX12_bare 55 = .ok (.iadd, 1) := by decide +kernel
theorem dX12_bare_56 : decode cX12_bare 56 = .ok (.iaload, 1) := by decide +kernel
theorem dX12_bare_57 : decode cX12_bare 57 = .ok (.ifCond .ne 5, 3) := by decide +kernel
theorem dX12_bare_60 : decode cX12_bare 60 = .ok (.iload_n 2, 1) := by decide +kernel
theorem dX12_bare_61 : decode cX12_bare 61 = .ok (.ireturn, 1) := by decide +kernel
theorem dX12_bare_62 : decode cX12_bare 62 = .ok (.aload_n 0, 1) := by decide +kernel
theorem dX12_bare_63 : decode cX12_bare 63 = .ok (.aload_n 0, 1) := by decide +kernel
theorem dX12_bare_64 : decode cX12_bare 64 = .ok (.getfield 70, 3) := by decide +kernel
theorem dX12_bare_67 : decode cX12_bare 67 = .ok (.invokevirtual 314, 3) := by decide +kernel
theorem dX12_bare_70 : decode cX12_bare 70 = .ok (.iinc 2 1, 3) := by decide +kernel
theorem dX12_bare_73 : decode cX12_bare 73 = .ok (.goto (-31), 3) := by decide +kernel
theorem dX12_bare_76 : decode cX12_bare 76 = .ok (.iconst (-1), 1) := by decide +kernel
theorem dX12_bare_77 : decode cX12_bare 77 = .ok (.ireturn, 1) := by decide +kernel
theorem dX12_everyBeast_0 : decode cX12_everyBeast 0 = .ok (.iconst 1, 1) := by decide +kernel
theorem dX12_everyBeast_1 : decode cX12_everyBeast 1 = .ok (.aload_n 0, 1) := by decide +kernel
theorem dX12_everyBeast_2 : decode cX12_everyBeast 2 = .ok (.getfield 23, 3) := by decide +kernel
theorem dX12_everyBeast_5 : decode cX12_everyBeast 5 = .ok (.iconst 1, 1) := by decide +kernel
theorem dX12_everyBeast_6 : decode cX12_everyBeast 6 = .ok (.iaload, 1) := by decide +kernel
theorem dX12_everyBeast_7 : decode cX12_everyBeast 7 = .ok (.ishl, 1) := by decide +kernel
theorem dX12_everyBeast_8 : decode cX12_everyBeast 8 = .ok (.iconst 1, 1) := by decide +kernel
theorem dX12_everyBeast_9 : decode cX12_everyBeast 9 = .ok (.isub, 1) := by decide +kernel
theorem dX12_everyBeast_10 : decode cX12_everyBeast 10 = .ok (.ireturn, 1) := by decide +kernel
theorem dX12_isEven_0 : decode cX12_isEven 0 = .ok (.iconst 0, 1) := by decide +kernel
theorem dX12_isEven_1 : decode cX12_isEven 1 = .ok (.istore_n 2, 1) := by decide +kernel
theorem dX12_isEven_2 : decode cX12_isEven 2 = .ok (.iload_n 2, 1) := by decide +kernel
theorem dX12_isEven_3 : decode cX12_isEven 3 = .ok (.bipush 6, 2) := by decide +kernel
theorem dX12_isEven_5 : decode cX12_isEven 5 = .ok (.if_icmp .ge 16, 3) := by decide +kernel
theorem dX12_isEven_8 : decode cX12_isEven 8 = .ok (.aload_n 0, 1) := by decide +kernel
theorem dX12_isEven_9 : decode cX12_isEven 9 = .ok (.getfield 82, 3) := by decide +kernel
theorem dX12_isEven_12 : decode cX12_isEven 12 = .ok (.iload_n 2, 1) := by decide +kernel
theorem dX12_isEven_13 : decode cX12_isEven 13 = .ok (.iconst 0, 1) := by decide +kernel
theorem dX12_isEven_14 : decode cX12_isEven 14 = .ok (.iastore, 1) := by decide +kernel
theorem dX12_isEven_15 : decode cX12_isEven 15 = .ok (.iinc 2 1, 3) := by decide +kernel
theorem dX12_isEven_18 : decode cX12_isEven 18 = .ok (.goto (-16), 3) := by decide +kernel
theorem dX12_isEven_21 : decode cX12_isEven 21 = .ok (.iconst 0, 1) := by decide +kernel
theorem dX12_isEven_22 : decode cX12_isEven 22 = .ok (.istore_n 2, 1) := by decide +kernel
theorem dX12_isEven_23 : decode cX12_isEven 23 = .ok (.iload_n 2, 1) := by decide +kernel
theorem dX12_isEven_24 : decode cX12_isEven 24 = .ok (.aload_n 0, 1) := by decide +kernel
theorem dX12_isEven_25 : decode cX12_isEven 25 = .ok (.getfield 23, 3) := by decide +kernel
theorem dX12_isEven_28 : decode cX12_isEven 28 = .ok (.iconst 1, 1) := by decide +kernel
theorem dX12_isEven_29 : decode cX12_isEven 29 = .ok (.iaload, 1) := by decide +kernel
theorem dX12_isEven_30 : decode cX12_isEven 30 = .ok (.if_icmp .ge 54, 3) := by decide +kernel
theorem dX12_isEven_33 : decode cX12_isEven 33 = .ok (.iload_n 1, 1) := by decide +kernel
theorem dX12_isEven_34 : decode cX12_isEven 34 = .ok (.iload_n 2, 1) := by decide +kernel
theorem dX12_isEven_35 : decode cX12_isEven 35 = .ok (.invokestatic 266, 3) := by decide +kernel
theorem dX12_isEven_38 : decode cX12_isEven 38 = .ok (.ifCond .ne 6, 3) := by decide +kernel
theorem dX12_isEven_41 : decode cX12_isEven 41 = .ok (.goto 37, 3) := by decide +kernel
theorem dX12_isEven_44 : decode cX12_isEven 44 = .ok (.aload_n 0, 1) := by decide +kernel
theorem dX12_isEven_45 : decode cX12_isEven 45 = .ok (.getfield 82, 3) := by decide +kernel
theorem dX12_isEven_48 : decode cX12_isEven 48 = .ok (.aload_n 0, 1) := by decide +kernel
theorem dX12_isEven_49 : decode cX12_isEven 49 = .ok (.getfield 37, 3) := by decide +kernel
theorem dX12_isEven_52 : decode cX12_isEven 52 = .ok (.iload_n 2, 1) := by decide +kernel
theorem dX12_isEven_53 : decode cX12_isEven 53 = .ok (.aaload, 1) := by decide +kernel
theorem dX12_isEven_54 : decode cX12_isEven 54 = .ok (.iconst 0, 1) := by decide +kernel
theorem dX12_isEven_55 : decode cX12_isEven 55 = .ok (.iaload, 1) := by decide +kernel
theorem dX12_isEven_56 : decode cX12_isEven 56 = .ok (.dup2, 1) := by decide +kernel
theorem dX12_isEven_57 : decode cX12_isEven 57 = .ok (.iaload, 1) := by decide +kernel
theorem dX12_isEven_58 : decode cX12_isEven 58 = .ok (.iconst 1, 1) := by decide +kernel
theorem dX12_isEven_59 : decode cX12_isEven 59 = .ok (.iadd, 1) := by decide +kernel
theorem dX12_isEven_60 : decode cX12_isEven 60 = .ok (.iastore, 1) := by decide +kernel
theorem dX12_isEven_61 : decode cX12_isEven 61 = .ok (.aload_n 0, 1) := by decide +kernel
theorem dX12_isEven_62 : decode cX12_isEven 62 = .ok (.getfield 82, 3) := by decide +kernel
theorem dX12_isEven_65 : decode cX12_isEven 65 = .ok (.aload_n 0, 1) := by decide +kernel
theorem dX12_isEven_66 : decode cX12_isEven 66 = .ok (.getfield 37, 3) := by decide +kernel
theorem dX12_isEven_69 : decode cX12_isEven 69 = .ok (.iload_n 2, 1) := by decide +kernel
theorem dX12_isEven_70 : decode cX12_isEven 70 = .ok (.aaload, 1) := by decide +kernel
theorem dX12_isEven_71 : decode cX12_isEven 71 = .ok (.iconst 1, 1) := by decide +kernel
theorem dX12_isEven_72 : decode cX12_isEven 72 = .ok (.iaload, 1) := by decide +kernel
theorem dX12_isEven_73 : decode cX12_isEven 73 = .ok (.dup2, 1) := by decide +kernel
theorem dX12_isEven_74 : decode cX12_isEven 74 = .ok (.iaload, 1) := by decide +kernel
theorem dX12_isEven_75 : decode cX12_isEven 75 = .ok (.iconst 1, 1) := by decide +kernel
theorem dX12_isEven_76 : decode cX12_isEven 76 = .ok (.isub, 1) := by decide +kernel
theorem dX12_isEven_77 : decode cX12_isEven 77 = .ok (.iastore, 1) := by decide +kernel
theorem dX12_isEven_78 : decode cX12_isEven 78 = .ok (.iinc 2 1, 3) := by decide +kernel
theorem dX12_isEven_81 : decode cX12_isEven 81 = .ok (.goto (-58), 3) := by decide +kernel
theorem dX12_isEven_84 : decode cX12_isEven 84 = .ok (.iconst 0, 1) := by decide +kernel
theorem dX12_isEven_85 : decode cX12_isEven 85 = .ok (.istore_n 2, 1) := by decide +kernel
theorem dX12_isEven_86 : decode cX12_isEven 86 = .ok (.iload_n 2, 1) := by decide +kernel
theorem dX12_isEven_87 : decode cX12_isEven 87 = .ok (.bipush 6, 2) := by decide +kernel
theorem dX12_isEven_89 : decode cX12_isEven 89 = .ok (.if_icmp .ge 20, 3) := by decide +kernel
theorem dX12_isEven_92 : decode cX12_isEven 92 = .ok (.aload_n 0, 1) := by decide +kernel
theorem dX12_isEven_93 : decode cX12_isEven 93 = .ok (.getfield 82, 3) := by decide +kernel
theorem dX12_isEven_96 : decode cX12_isEven 96 = .ok (.iload_n 2, 1) := by decide +kernel
theorem dX12_isEven_97 : decode cX12_isEven 97 = .ok (.iaload, 1) := by decide +kernel
theorem dX12_isEven_98 : decode cX12_isEven 98 = .ok (.ifCond .eq 5, 3) := by decide +kernel
theorem dX12_isEven_101 : decode cX12_isEven 101 = .ok (.iconst 0, 1) := by decide +kernel
theorem dX12_isEven_102 : decode cX12_isEven 102 = .ok (.ireturn, 1) := by decide +kernel
theorem dX12_isEven_103 : decode cX12_isEven 103 = .ok (.iinc 2 1, 3) := by decide +kernel
theorem dX12_isEven_106 : decode cX12_isEven 106 = .ok (.goto (-20), 3) := by decide +kernel
theorem dX12_isEven_109 : decode cX12_isEven 109 = .ok (.iconst 1, 1) := by decide +kernel
theorem dX12_isEven_110 : decode cX12_isEven 110 = .ok (.ireturn, 1) := by decide +kernel
theorem dX12_cancel_0 : decode cX12_cancel 0 = .ok (.aload_n 0, 1) := by decide +kernel
theorem dX12_cancel_1 : decode cX12_cancel 1 = .ok (.iconst 0, 1) := by decide +kernel
theorem dX12_cancel_2 : decode cX12_cancel 2 = .ok (.putfield 104, 3) := by decide +kernel
theorem dX12_cancel_5 : decode cX12_cancel 5 = .ok (.iconst 0, 1) := by decide +kernel
theorem dX12_cancel_6 : decode cX12_cancel 6 = .ok (.istore_n 1, 1) := by decide +kernel
theorem dX12_cancel_7 : decode cX12_cancel 7 = .ok (.aload_n 0, 1) := by decide +kernel
theorem dX12_cancel_8 : decode cX12_cancel 8 = .ok (.getfield 67, 3) := by decide +kernel
theorem dX12_cancel_11 : decode cX12_cancel 11 = .ok (.invokestatic 335, 3) := by decide +kernel
theorem dX12_cancel_14 : decode cX12_cancel 14 = .ok (.istore_n 2, 1) := by decide +kernel
theorem dX12_cancel_15 : decode cX12_cancel 15 = .ok (.iconst 1, 1) := by decide +kernel
theorem dX12_cancel_16 : decode cX12_cancel 16 = .ok (.istore_n 3, 1) := by decide +kernel
theorem dX12_cancel_17 : decode cX12_cancel 17 = .ok (.iload_n 3, 1) := by decide +kernel
theorem dX12_cancel_18 : decode cX12_cancel 18 = .ok (.aload_n 0, 1) := by decide +kernel
theorem dX12_cancel_19 : decode cX12_cancel 19 = .ok (.invokevirtual 357, 3) := by decide +kernel
theorem dX12_cancel_22 : decode cX12_cancel 22 = .ok (.if_icmp .gt 42, 3) := by decide +kernel
theorem dX12_cancel_25 : decode cX12_cancel 25 = .ok (.iload_n 3, 1) := by decide +kernel
theorem dX12_cancel_26 : decode cX12_cancel 26 = .ok (.iload_n 2, 1) := by decide +kernel
theorem dX12_cancel_27 : decode cX12_cancel 27 = .ok (.iconst (-1), 1) := by decide +kernel
theorem dX12_cancel_28 : decode cX12_cancel 28 = .ok (.ixor, 1) := by decide +kernel
theorem dX12_cancel_29 : decode cX12_cancel 29 = .ok (.iand, 1) := by decide +kernel
theorem dX12_cancel_30 : decode cX12_cancel 30 = .ok (.ifCond .ne 26, 3) := by decide +kernel
theorem dX12_cancel_33 : decode cX12_cancel 33 = .ok (.iload_n 3, 1) := by decide +kernel
theorem dX12_cancel_34 : decode cX12_cancel 34 = .ok (.invokestatic 281, 3) := by decide +kernel
theorem dX12_cancel_37 : decode cX12_cancel 37 = .ok (.iload_n 1, 1) := by decide +kernel
theorem dX12_cancel_38 : decode cX12_cancel 38 = .ok (.invokestatic 281, 3) := by decide +kernel
theorem dX12_cancel_41 : decode cX12_cancel 41 = .ok (.if_icmp .le 15, 3) := by decide +kernel
theorem dX12_cancel_44 : decode cX12_cancel 44 = .ok (.aload_n 0, 1) := by decide +kernel
theorem dX12_cancel_45 : decode cX12_cancel 45 = .ok (.iload_n 3, 1) := by decide +kernel
theorem dX12_cancel_46 : decode cX12_cancel 46 = .ok (.invokevirtual 360, 3) := by decide +kernel
theorem dX12_cancel_49 : decode cX12_cancel 49 = .ok (.ifCond .eq 7, 3) := by decide +kernel
theorem dX12_cancel_52 : decode cX12_cancel 52 = .ok (.iload_n 3, 1) := by decide +kernel
theorem dX12_cancel_53 : decode cX12_cancel 53 = .ok (.goto 4, 3) := by decide +kernel
theorem dX12_cancel_56 : decode cX12_cancel 56 = .ok (.iload_n 1, 1) := by decide +kernel
theorem dX12_cancel_57 : decode cX12_cancel 57 = .ok (.istore_n 1, 1) := by decide +kernel
theorem dX12_cancel_58 : decode cX12_cancel 58 = .ok (.iinc 3 1, 3) := by decide +kernel
theorem dX12_cancel_61 : decode cX12_cancel 61 = .ok (.goto (-44), 3) := by decide +kernel
theorem dX12_cancel_64 : decode cX12_cancel 64 = .ok (.iload_n 1, 1) := by decide +kernel
theorem dX12_cancel_65 : decode cX12_cancel 65 = .ok (.ireturn, 1) := by decide +kernel
theorem dX12_heavy_0 : decode cX12_heavy 0 = .ok (.iconst 0, 1) := by decide +kernel
theorem dX12_heavy_1 : decode cX12_heavy 1 = .ok (.istore_n 2, 1) := by decide +kernel
theorem dX12_heavy_2 : decode cX12_heavy 2 = .ok (.iconst 0, 1) := by decide +kernel
theorem dX12_heavy_3 : decode cX12_heavy 3 = .ok (.istore_n 3, 1) := by decide +kernel
theorem dX12_heavy_4 : decode cX12_heavy 4 = .ok (.iload_n 3, 1) := by decide +kernel
theorem dX12_heavy_5 : decode cX12_heavy 5 = .ok (.aload_n 0, 1) := by decide +kernel
theorem dX12_heavy_6 : decode cX12_heavy 6 = .ok (.getfield 23, 3) := by decide +kernel
theorem dX12_heavy_9 : decode cX12_heavy 9 = .ok (.iconst 1, 1) := by decide +kernel
theorem dX12_heavy_10 : decode cX12_heavy 10 = .ok (.iaload, 1) := by decide +kernel
theorem dX12_heavy_11 : decode cX12_heavy 11 = .ok (.if_icmp .ge 32, 3) := by decide +kernel
theorem dX12_heavy_14 : decode cX12_heavy 14 = .ok (.iload_n 2, 1) := by decide +kernel
theorem dX12_heavy_15 : decode cX12_heavy 15 = .ok (.iload_n 1, 1) := by decide +kernel
theorem dX12_heavy_16 : decode cX12_heavy 16 = .ok (.iload_n 3, 1) := by decide +kernel
theorem dX12_heavy_17 : decode cX12_heavy 17 = .ok (.invokestatic 266, 3) := by decide +kernel
theorem dX12_heavy_20 : decode cX12_heavy 20 = .ok (.ifCond .eq 14, 3) := by decide +kernel
theorem dX12_heavy_23 : decode cX12_heavy 23 = .ok (.aload_n 0, 1) := by decide +kernel
theorem dX12_heavy_24 : decode cX12_heavy 24 = .ok (.getfield 67, 3) := by decide +kernel
theorem dX12_heavy_27 : decode cX12_heavy 27 = .ok (.iconst 0, 1) := by decide +kernel
theorem dX12_heavy_28 : decode cX12_heavy 28 = .ok (.iload_n 3, 1) := by decide +kernel
theorem dX12_heavy_29 : decode cX12_heavy 29 = .ok (.iadd, 1) := by decide +kernel
theorem dX12_heavy_30 : decode cX12_heavy 30 = .ok (.iaload, 1) := by decide +kernel
theorem dX12_heavy_31 : decode cX12_heavy 31 = .ok (.goto 4, 3) := by decide +kernel
theorem dX12_heavy_34 : decode cX12_heavy 34 = .ok (.iconst 0, 1) := by decide +kernel
theorem dX12_heavy_35 : decode cX12_heavy 35 = .ok (.iadd, 1) := by decide +kernel
theorem dX12_heavy_36 : decode cX12_heavy 36 = .ok (.istore_n 2, 1) := by decide +kernel
theorem dX12_heavy_37 : decode cX12_heavy 37 = .ok (.iinc 3 1, 3) := by decide +kernel
theorem dX12_heavy_40 : decode cX12_heavy 40 = .ok (.goto (-36), 3) := by decide +kernel
theorem dX12_heavy_43 : decode cX12_heavy 43 = .ok (.iload_n 2, 1) := by decide +kernel
theorem dX12_heavy_44 : decode cX12_heavy 44 = .ok (.ireturn, 1) := by decide +kernel
theorem dX12_laysEats_0 : decode cX12_laysEats 0 = .ok (.iconst 0, 1) := by decide +kernel
theorem dX12_laysEats_1 : decode cX12_laysEats 1 = .ok (.istore_n 1, 1) := by decide +kernel
theorem dX12_laysEats_2 : decode cX12_laysEats 2 = .ok (.iload_n 1, 1) := by decide +kernel
theorem dX12_laysEats_3 : decode cX12_laysEats 3 = .ok (.bipush 12, 2) := by decide +kernel
theorem dX12_laysEats_5 : decode cX12_laysEats 5 = .ok (.if_icmp .gt 24, 3) := by decide +kernel
theorem dX12_laysEats_8 : decode cX12_laysEats 8 = .ok (.aload_n 0, 1) := by decide +kernel
theorem dX12_laysEats_9 : decode cX12_laysEats 9 = .ok (.getfield 73, 3) := by decide +kernel
theorem dX12_laysEats_12 : decode cX12_laysEats 12 = .ok (.iload_n 1, 1) := by decide +kernel
theorem dX12_laysEats_13 : decode cX12_laysEats 13 = .ok (.aload_n 0, 1) := by decide +kernel
theorem dX12_laysEats_14 : decode cX12_laysEats 14 = .ok (.aload_n 0, 1) := by decide +kernel
theorem dX12_laysEats_15 : decode cX12_laysEats 15 = .ok (.getfield 67, 3) := by decide +kernel
theorem dX12_laysEats_18 : decode cX12_laysEats 18 = .ok (.iload_n 1, 1) := by decide +kernel
theorem dX12_laysEats_19 : decode cX12_laysEats 19 = .ok (.invokevirtual 294, 3) := by decide +kernel
theorem dX12_laysEats_22 : decode cX12_laysEats 22 = .ok (.iastore, 1) := by decide +kernel
theorem dX12_laysEats_23 : decode cX12_laysEats 23 = .ok (.iinc 1 1, 3) := by decide +kernel
theorem dX12_laysEats_26 : decode cX12_laysEats 26 = .ok (.goto (-24), 3) := by decide +kernel
theorem dX12_laysEats_29 : decode cX12_laysEats 29 = .ok (.return_, 1) := by decide +kernel
theorem dX12_eatenBy_0 : decode cX12_eatenBy 0 = .ok (.iconst 0, 1) := by decide +kernel
theorem dX12_eatenBy_1 : decode cX12_eatenBy 1 = .ok (.istore_n 2, 1) := by decide +kernel
theorem dX12_eatenBy_2 : decode cX12_eatenBy 2 = .ok (.iconst 0, 1) := by decide +kernel
theorem dX12_eatenBy_3 : decode cX12_eatenBy 3 = .ok (.istore_n 3, 1) := by decide +kernel
theorem dX12_eatenBy_4 : decode cX12_eatenBy 4 = .ok (.iload_n 3, 1) := by decide +kernel
theorem dX12_eatenBy_5 : decode cX12_eatenBy 5 = .ok (.aload_n 0, 1) := by decide +kernel
theorem dX12_eatenBy_6 : decode cX12_eatenBy 6 = .ok (.getfield 23, 3) := by decide +kernel
theorem dX12_eatenBy_9 : decode cX12_eatenBy 9 = .ok (.iconst 1, 1) := by decide +kernel
theorem dX12_eatenBy_10 : decode cX12_eatenBy 10 = .ok (.iaload, 1) := by decide +kernel
theorem dX12_eatenBy_11 : decode cX12_eatenBy 11 = .ok (.if_icmp .ge 30, 3) := by decide +kernel
theorem dX12_eatenBy_14 : decode cX12_eatenBy 14 = .ok (.iload_n 2, 1) := by decide +kernel
theorem dX12_eatenBy_15 : decode cX12_eatenBy 15 = .ok (.iload_n 1, 1) := by decide +kernel
theorem dX12_eatenBy_16 : decode cX12_eatenBy 16 = .ok (.iload_n 3, 1) := by decide +kernel
theorem dX12_eatenBy_17 : decode cX12_eatenBy 17 = .ok (.invokestatic 266, 3) := by decide +kernel
theorem dX12_eatenBy_20 : decode cX12_eatenBy 20 = .ok (.ifCond .eq 12, 3) := by decide +kernel
theorem dX12_eatenBy_23 : decode cX12_eatenBy 23 = .ok (.aload_n 0, 1) := by decide +kernel
theorem dX12_eatenBy_24 : decode cX12_eatenBy 24 = .ok (.getfield 73, 3) := by decide +kernel
theorem dX12_eatenBy_27 : decode cX12_eatenBy 27 = .ok (.iload_n 3, 1) := by decide +kernel
theorem dX12_eatenBy_28 : decode cX12_eatenBy 28 = .ok (.iaload, 1) := by decide +kernel
theorem dX12_eatenBy_29 : decode cX12_eatenBy 29 = .ok (.goto 4, 3) := by decide +kernel
theorem dX12_eatenBy_32 : decode cX12_eatenBy 32 = .ok (.iconst 0, 1) := by decide +kernel
theorem dX12_eatenBy_33 : decode cX12_eatenBy 33 = .ok (.iadd, 1) := by decide +kernel
theorem dX12_eatenBy_34 : decode cX12_eatenBy 34 = .ok (.istore_n 2, 1) := by decide +kernel
theorem dX12_eatenBy_35 : decode cX12_eatenBy 35 = .ok (.iinc 3 1, 3) := by decide +kernel
theorem dX12_eatenBy_38 : decode cX12_eatenBy 38 = .ok (.goto (-34), 3) := by decide +kernel
theorem dX12_eatenBy_41 : decode cX12_eatenBy 41 = .ok (.iload_n 2, 1) := by decide +kernel
theorem dX12_eatenBy_42 : decode cX12_eatenBy 42 = .ok (.ireturn, 1) := by decide +kernel
theorem dX12_herd_0 : decode cX12_herd 0 = .ok (.aload_n 0, 1) := by decide +kernel
theorem dX12_herd_1 : decode cX12_herd 1 = .ok (.iconst 0, 1) := by decide +kernel
theorem dX12_herd_2 : decode cX12_herd 2 = .ok (.putfield 104, 3) := by decide +kernel
theorem dX12_herd_5 : decode cX12_herd 5 = .ok (.aload_n 0, 1) := by decide +kernel
theorem dX12_herd_6 : decode cX12_herd 6 = .ok (.aload_n 0, 1) := by decide +kernel
theorem dX12_herd_7 : decode cX12_herd 7 = .ok (.iload_n 1, 1) := by decide +kernel
theorem dX12_herd_8 : decode cX12_herd 8 = .ok (.invokevirtual 348, 3) := by decide +kernel
theorem dX12_herd_11 : decode cX12_herd 11 = .ok (.ifCond .ne 7, 3) := by decide +kernel
theorem dX12_herd_14 : decode cX12_herd 14 = .ok (.iconst 1, 1) := by decide +kernel
theorem dX12_herd_15 : decode cX12_herd 15 = .ok (.goto 4, 3) := by decide +kernel
theorem dX12_herd_18 : decode cX12_herd 18 = .ok (.iconst 0, 1) := by decide +kernel
theorem dX12_herd_19 : decode cX12_herd 19 = .ok (.iconst 1, 1) := by decide +kernel
theorem dX12_herd_20 : decode cX12_herd 20 = .ok (.iconst 0, 1) := by decide +kernel
theorem dX12_herd_21 : decode cX12_herd 21 = .ok (.invokevirtual 183, 3) := by decide +kernel
theorem dX12_herd_24 : decode cX12_herd 24 = .ok (.ifCond .ne 26, 3) := by decide +kernel
theorem dX12_herd_27 : decode cX12_herd 27 = .ok (.aload_n 0, 1) := by decide +kernel
theorem dX12_herd_28 : decode cX12_herd 28 = .ok (.iload_n 2, 1) := by decide +kernel
theorem dX12_herd_29 : decode cX12_herd 29 = .ok (.iconst 0, 1) := by decide +kernel
theorem dX12_herd_30 : decode cX12_herd 30 = .ok (.iconst 1, 1) := by decide +kernel
theorem dX12_herd_31 : decode cX12_herd 31 = .ok (.invokestatic 138, 3) := by decide +kernel
theorem dX12_herd_34 : decode cX12_herd 34 = .ok (.ifCond .ne 7, 3) := by decide +kernel
theorem dX12_herd_37 : decode cX12_herd 37 = .ok (.iconst 1, 1) := by decide +kernel
theorem dX12_herd_38 : decode cX12_herd 38 = .ok (.goto 4, 3) := by decide +kernel
theorem dX12_herd_41 : decode cX12_herd 41 = .ok (.iconst 0, 1) := by decide +kernel
theorem dX12_herd_42 : decode cX12_herd 42 = .ok (.iconst 2, 1) := by decide +kernel
theorem dX12_herd_43 : decode cX12_herd 43 = .ok (.iconst 1, 1) := by decide +kernel
theorem dX12_herd_44 : decode cX12_herd 44 = .ok (.invokevirtual 183, 3) := by decide +kernel
theorem dX12_herd_47 : decode cX12_herd 47 = .ok (.ifCond .eq 5, 3) := by decide +kernel
theorem dX12_herd_50 : decode cX12_herd 50 = .ok (.iconst 0, 1) := by decide +kernel
theorem dX12_herd_51 : decode cX12_herd 51 = .ok (.ireturn, 1) := by decide +kernel
theorem dX12_herd_52 : decode cX12_herd 52 = .ok (.iconst 0, 1) := by decide +kernel
theorem dX12_herd_53 : decode cX12_herd 53 = .ok (.istore_n 3, 1) := by decide +kernel
theorem dX12_herd_54 : decode cX12_herd 54 = .ok (.aload_n 0, 1) := by decide +kernel
theorem dX12_herd_55 : decode cX12_herd 55 = .ok (.getfield 67, 3) := by decide +kernel
theorem dX12_herd_58 : decode cX12_herd 58 = .ok (.invokestatic 335, 3) := by decide +kernel
theorem dX12_herd_61 : decode cX12_herd 61 = .ok (.istore 4, 2) := by decide +kernel
theorem dX12_herd_63 : decode cX12_herd 63 = .ok (.aload_n 0, 1) := by decide +kernel
theorem dX12_herd_64 : decode cX12_herd 64 = .ok (.invokevirtual 363, 3) := by decide +kernel
theorem dX12_herd_67 : decode cX12_herd 67 = .ok (.iconst 1, 1) := by decide +kernel
theorem dX12_herd_68 : decode cX12_herd 68 = .ok (.istore 5, 2) := by decide +kernel
theorem dX12_herd_70 : decode cX12_herd 70 = .ok (.iload 5, 2) := by decide +kernel
theorem dX12_herd_72 : decode cX12_herd 72 = .ok (.aload_n 0, 1) := by decide +kernel
theorem dX12_herd_73 : decode cX12_herd 73 = .ok (.invokevirtual 357, 3) := by decide +kernel
theorem dX12_herd_76 : decode cX12_herd 76 = .ok (.if_icmp .gt 86, 3) := by decide +kernel
theorem dX12_herd_79 : decode cX12_herd 79 = .ok (.iload 5, 2) := by decide +kernel
theorem dX12_herd_81 : decode cX12_herd 81 = .ok (.iload 4, 2) := by decide +kernel
theorem dX12_herd_83 : decode cX12_herd 83 = .ok (.iconst (-1), 1) := by decide +kernel
theorem dX12_herd_84 : decode cX12_herd 84 = .ok (.ixor, 1) := by decide +kernel
theorem dX12_herd_85 : decode cX12_herd 85 = .ok (.iand, 1) := by decide +kernel
theorem dX12_herd_86 : decode cX12_herd 86 = .ok (.ifCond .ne 70, 3) := by decide +kernel
theorem dX12_herd_89 : decode cX12_herd 89 = .ok (.aload_n 0, 1) := by decide +kernel
theorem dX12_herd_90 : decode cX12_herd 90 = .ok (.iload 5, 2) := by decide +kernel
theorem dX12_herd_92 : decode cX12_herd 92 = .ok (.invokevirtual 366, 3) := by decide +kernel
theorem dX12_herd_95 : decode cX12_herd 95 = .ok (.aload_n 0, 1) := by decide +kernel
theorem dX12_herd_96 : decode cX12_herd 96 = .ok (.getfield 67, 3) := by decide +kernel
theorem dX12_herd_99 : decode cX12_herd 99 = .ok (.bipush 39, 2) := by decide +kernel
theorem dX12_herd_101 : decode cX12_herd 101 = .ok (.iload_n 1, 1) := by decide +kernel
theorem dX12_herd_102 : decode cX12_herd 102 = .ok (.iadd, 1) := by decide +kernel
theorem dX12_herd_103 : decode cX12_herd 103 = .ok (.iaload, 1) := by decide +kernel
theorem dX12_herd_104 : decode cX12_herd 104 = .ok (.if_icmp .le 6, 3) := by decide +kernel
theorem dX12_herd_107 : decode cX12_herd 107 = .ok (.goto 49, 3) := by decide +kernel
theorem dX12_herd_110 : decode cX12_herd 110 = .ok (.aload_n 0, 1) := by decide +kernel
theorem dX12_herd_111 : decode cX12_herd 111 = .ok (.iload 5, 2) := by decide +kernel
theorem dX12_herd_113 : decode cX12_herd 113 = .ok (.invokevirtual 369, 3) := by decide +kernel
theorem dX12_herd_116 : decode cX12_herd 116 = .ok (.aload_n 0, 1) := by decide +kernel
theorem dX12_herd_117 : decode cX12_herd 117 = .ok (.iload_n 3, 1) := by decide +kernel
theorem dX12_herd_118 : decode cX12_herd 118 = .ok (.invokevirtual 369, 3) := by decide +kernel
theorem dX12_herd_121 : decode cX12_herd 121 = .ok (.if_icmp .lt 35, 3) := by decide +kernel
theorem dX12_herd_124 : decode cX12_herd 124 = .ok (.aload_n 0, 1) := by decide +kernel
theorem dX12_herd_125 : decode cX12_herd 125 = .ok (.iload 5, 2) := by decide +kernel
theorem dX12_herd_127 : decode cX12_herd 127 = .ok (.invokevirtual 369, 3) := by decide +kernel
theorem dX12_herd_130 : decode cX12_herd 130 = .ok (.aload_n 0, 1) := by decide +kernel
theorem dX12_herd_131 : decode cX12_herd 131 = .ok (.iload_n 3, 1) := by decide +kernel
theorem dX12_herd_132 : decode cX12_herd 132 = .ok (.invokevirtual 369, 3) := by decide +kernel
theorem dX12_herd_135 : decode cX12_herd 135 = .ok (.if_icmp .ne 18, 3) := by decide +kernel
theorem dX12_herd_138 : decode cX12_herd 138 = .ok (.iload 5, 2) := by decide +kernel
theorem dX12_herd_140 : decode cX12_herd 140 = .ok (.invokestatic 281, 3) := by decide +kernel
theorem dX12_herd_143 : decode cX12_herd 143 = .ok (.iload_n 3, 1) := by decide +kernel
theorem dX12_herd_144 : decode cX12_herd 144 = .ok (.invokestatic 281, 3) := by decide +kernel
theorem dX12_herd_147 : decode cX12_herd 147 = .ok (.if_icmp .lt 6, 3) := by decide +kernel
theorem dX12_herd_150 : decode cX12_herd 150 = .ok (.goto 6, 3) := by decide +kernel
theorem dX12_herd_153 : decode cX12_herd 153 = .ok (.iload 5, 2) := by decide +kernel
theorem dX12_herd_155 : decode cX12_herd 155 = .ok (.istore_n 3, 1) := by decide +kernel
theorem dX12_herd_156 : decode cX12_herd 156 = .ok (.iinc 5 1, 3) := by decide +kernel
theorem dX12_herd_159 : decode cX12_herd 159 = .ok (.goto (-89), 3) := by decide +kernel
theorem dX12_herd_162 : decode cX12_herd 162 = .ok (.iload_n 2, 1) := by decide +kernel
theorem dX12_herd_163 : decode cX12_herd 163 = .ok (.ifCond .ne 11, 3) := by decide +kernel
theorem dX12_herd_166 : decode cX12_herd 166 = .ok (.aload_n 0, 1) := by decide +kernel
theorem dX12_herd_167 : decode cX12_herd 167 = .ok (.iload_n 3, 1) := by decide +kernel
theorem dX12_herd_168 : decode cX12_herd 168 = .ok (.invokevirtual 369, 3) := by decide +kernel
theorem dX12_herd_171 : decode cX12_herd 171 = .ok (.goto 4, 3) := by decide +kernel
theorem dX12_herd_174 : decode cX12_herd 174 = .ok (.iload_n 3, 1) := by decide +kernel
theorem dX12_herd_175 : decode cX12_herd 175 = .ok (.ireturn, 1) := by decide +kernel
theorem dX12_paid_0 : decode cX12_paid 0 = .ok (.aload_n 0, 1) := by decide +kernel
theorem dX12_paid_1 : decode cX12_paid 1 = .ok (.iconst 0, 1) := by decide +kernel
theorem dX12_paid_2 : decode cX12_paid 2 = .ok (.putfield 104, 3) := by decide +kernel
theorem dX12_paid_5 : decode cX12_paid 5 = .ok (.aload_n 0, 1) := by decide +kernel
theorem dX12_paid_6 : decode cX12_paid 6 = .ok (.aload_n 0, 1) := by decide +kernel
theorem dX12_paid_7 : decode cX12_paid 7 = .ok (.iload_n 1, 1) := by decide +kernel
theorem dX12_paid_8 : decode cX12_paid 8 = .ok (.invokevirtual 354, 3) := by decide +kernel
theorem dX12_paid_11 : decode cX12_paid 11 = .ok (.ifCond .ne 7, 3) := by decide +kernel
theorem dX12_paid_14 : decode cX12_paid 14 = .ok (.iconst 1, 1) := by decide +kernel
theorem dX12_paid_15 : decode cX12_paid 15 = .ok (.goto 4, 3) := by decide +kernel
theorem dX12_paid_18 : decode cX12_paid 18 = .ok (.iconst 0, 1) := by decide +kernel
theorem dX12_paid_19 : decode cX12_paid 19 = .ok (.iconst 1, 1) := by decide +kernel
theorem dX12_paid_20 : decode cX12_paid 20 = .ok (.iconst 0, 1) := by decide +kernel
theorem dX12_paid_21 : decode cX12_paid 21 = .ok (.invokevirtual 183, 3) := by decide +kernel
theorem dX12_paid_24 : decode cX12_paid 24 = .ok (.ifCond .ne 26, 3) := by decide +kernel
theorem dX12_paid_27 : decode cX12_paid 27 = .ok (.aload_n 0, 1) := by decide +kernel
theorem dX12_paid_28 : decode cX12_paid 28 = .ok (.iload_n 2, 1) := by decide +kernel
theorem dX12_paid_29 : decode cX12_paid 29 = .ok (.iconst 0, 1) := by decide +kernel
theorem dX12_paid_30 : decode cX12_paid 30 = .ok (.iconst 1, 1) := by decide +kernel
theorem dX12_paid_31 : decode cX12_paid 31 = .ok (.invokestatic 138, 3) := by decide +kernel
theorem dX12_paid_34 : decode cX12_paid 34 = .ok (.ifCond .ne 7, 3) := by decide +kernel
theorem dX12_paid_37 : decode cX12_paid 37 = .ok (.iconst 1, 1) := by decide +kernel
theorem dX12_paid_38 : decode cX12_paid 38 = .ok (.goto 4, 3) := by decide +kernel
theorem dX12_paid_41 : decode cX12_paid 41 = .ok (.iconst 0, 1) := by decide +kernel
theorem dX12_paid_42 : decode cX12_paid 42 = .ok (.iconst 2, 1) := by decide +kernel
theorem dX12_paid_43 : decode cX12_paid 43 = .ok (.iconst 1, 1) := by decide +kernel
theorem dX12_paid_44 : decode cX12_paid 44 = .ok (.invokevirtual 183, 3) := by decide +kernel
theorem dX12_paid_47 : decode cX12_paid 47 = .ok (.ifCond .eq 5, 3) := by decide +kernel
theorem dX12_paid_50 : decode cX12_paid 50 = .ok (.iconst 0, 1) := by decide +kernel
theorem dX12_paid_51 : decode cX12_paid 51 = .ok (.ireturn, 1) := by decide +kernel
theorem dX12_paid_52 : decode cX12_paid 52 = .ok (.iconst 0, 1) := by decide +kernel
theorem dX12_paid_53 : decode cX12_paid 53 = .ok (.istore_n 3, 1) := by decide +kernel
theorem dX12_paid_54 : decode cX12_paid 54 = .ok (.iconst (-1), 1) := by decide +kernel
theorem dX12_paid_55 : decode cX12_paid 55 = .ok (.istore 4, 2) := by decide +kernel
theorem dX12_paid_57 : decode cX12_paid 57 = .ok (.aload_n 0, 1) := by decide +kernel
theorem dX12_paid_58 : decode cX12_paid 58 = .ok (.getfield 67, 3) := by decide +kernel
theorem dX12_paid_61 : decode cX12_paid 61 = .ok (.invokestatic 335, 3) := by decide +kernel
theorem dX12_paid_64 : decode cX12_paid 64 = .ok (.iconst 1, 1) := by decide +kernel
theorem dX12_paid_65 : decode cX12_paid 65 = .ok (.iload_n 1, 1) := by decide +kernel
theorem dX12_paid_66 : decode cX12_paid 66 = .ok (.ishl, 1) := by decide +kernel
theorem dX12_paid_67 : decode cX12_paid 67 = .ok (.iconst (-1), 1) := by decide +kernel
theorem dX12_paid_68 : decode cX12_paid 68 = .ok (.ixor, 1) := by decide +kernel
theorem dX12_paid_69 : decode cX12_paid 69 = .ok (.iand, 1) := by decide +kernel
theorem dX12_paid_70 : decode cX12_paid 70 = .ok (.istore 5, 2) := by decide +kernel
theorem dX12_paid_72 : decode cX12_paid 72 = .ok (.iconst 1, 1) := by decide +kernel
theorem dX12_paid_73 : decode cX12_paid 73 = .ok (.istore 6, 2) := by decide +kernel
theorem dX12_paid_75 : decode cX12_paid 75 = .ok (.iload 6, 2) := by decide +kernel
theorem dX12_paid_77 : decode cX12_paid 77 = .ok (.aload_n 0, 1) := by decide +kernel
theorem dX12_paid_78 : decode cX12_paid 78 = .ok (.invokevirtual 357, 3) := by decide +kernel
theorem dX12_paid_81 : decode cX12_paid 81 = .ok (.if_icmp .gt 81, 3) := by decide +kernel
theorem dX12_paid_84 : decode cX12_paid 84 = .ok (.aload_n 0, 1) := by decide +kernel
theorem dX12_paid_85 : decode cX12_paid 85 = .ok (.getfield 67, 3) := by decide +kernel
theorem dX12_paid_88 : decode cX12_paid 88 = .ok (.iload_n 1, 1) := by decide +kernel
theorem dX12_paid_89 : decode cX12_paid 89 = .ok (.invokestatic 273, 3) := by decide +kernel
theorem dX12_paid_92 : decode cX12_paid 92 = .ok (.ifCond .eq 70, 3) := by decide +kernel
theorem dX12_paid_95 : decode cX12_paid 95 = .ok (.iload 6, 2) := by decide +kernel
theorem dX12_paid_97 : decode cX12_paid 97 = .ok (.iload 5, 2) := by decide +kernel
theorem dX12_paid_99 : decode cX12_paid 99 = .ok (.iconst (-1), 1) := by decide +kernel
theorem dX12_paid_100 : decode cX12_paid 100 = .ok (.ixor, 1) := by decide +kernel
theorem dX12_paid_101 : decode cX12_paid 101 = .ok (.iand, 1) := by decide +kernel
theorem dX12_paid_102 : decode cX12_paid 102 = .ok (.ifCond .ne 54, 3) := by decide +kernel
theorem dX12_paid_105 : decode cX12_paid 105 = .ok (.aload_n 0, 1) := by decide +kernel
theorem dX12_paid_106 : decode cX12_paid 106 = .ok (.iload 6, 2) := by decide +kernel
theorem dX12_paid_108 : decode cX12_paid 108 = .ok (.invokevirtual 369, 3) := by decide +kernel
theorem dX12_paid_111 : decode cX12_paid 111 = .ok (.aload_n 0, 1) := by decide +kernel
theorem dX12_paid_112 : decode cX12_paid 112 = .ok (.getfield 67, 3) := by decide +kernel
theorem dX12_paid_115 : decode cX12_paid 115 = .ok (.iconst 0, 1) := by decide +kernel
theorem dX12_paid_116 : decode cX12_paid 116 = .ok (.iload_n 1, 1) := by decide +kernel
theorem dX12_paid_117 : decode cX12_paid 117 = .ok (.iadd, 1) := by decide +kernel
theorem dX12_paid_118 : decode cX12_paid 118 = .ok (.iaload, 1) := by decide +kernel
theorem dX12_paid_119 : decode cX12_paid 119 = .ok (.if_icmp .eq 6, 3) := by decide +kernel
theorem dX12_paid_122 : decode cX12_paid 122 = .ok (.goto 34, 3) := by decide +kernel
theorem dX12_paid_125 : decode cX12_paid 125 = .ok (.iinc 3 1, 3) := by decide +kernel
theorem dX12_paid_128 : decode cX12_paid 128 = .ok (.iload 4, 2) := by decide +kernel
theorem dX12_paid_130 : decode cX12_paid 130 = .ok (.iconst (-1), 1) := by decide +kernel
theorem dX12_paid_131 : decode cX12_paid 131 = .ok (.if_icmp .eq 16, 3) := by decide +kernel
theorem dX12_paid_134 : decode cX12_paid 134 = .ok (.iload 6, 2) := by decide +kernel
theorem dX12_paid_136 : decode cX12_paid 136 = .ok (.invokestatic 281, 3) := by decide +kernel
theorem dX12_paid_139 : decode cX12_paid 139 = .ok (.iload 4, 2) := by decide +kernel
theorem dX12_paid_141 : decode cX12_paid 141 = .ok (.invokestatic 281, 3) := by decide +kernel
theorem dX12_paid_144 : decode cX12_paid 144 = .ok (.if_icmp .ge 8, 3) := by decide +kernel
theorem dX12_paid_147 : decode cX12_paid 147 = .ok (.iload 6, 2) := by decide +kernel
theorem dX12_paid_149 : decode cX12_paid 149 = .ok (.goto 5, 3) := by decide +kernel
theorem dX12_paid_152 : decode cX12_paid 152 = .ok (.iload 4, 2) := by decide +kernel
theorem dX12_paid_154 : decode cX12_paid 154 = .ok (.istore 4, 2) := by decide +kernel
theorem dX12_paid_156 : decode cX12_paid 156 = .ok (.iinc 6 1, 3) := by decide +kernel
theorem dX12_paid_159 : decode cX12_paid 159 = .ok (.goto (-84), 3) := by decide +kernel
theorem dX12_paid_162 : decode cX12_paid 162 = .ok (.iload_n 2, 1) := by decide +kernel
theorem dX12_paid_163 : decode cX12_paid 163 = .ok (.ifCond .ne 7, 3) := by decide +kernel
theorem dX12_paid_166 : decode cX12_paid 166 = .ok (.iload_n 3, 1) := by decide +kernel
theorem dX12_paid_167 : decode cX12_paid 167 = .ok (.goto 5, 3) := by decide +kernel
theorem dX12_paid_170 : decode cX12_paid 170 = .ok (.iload 4, 2) := by decide +kernel
theorem dX12_paid_172 : decode cX12_paid 172 = .ok (.ireturn, 1) := by decide +kernel
theorem dX12_isUnseen_0 : decode cX12_isUnseen 0 = .ok (.aload_n 0, 1) := by decide +kernel
theorem dX12_isUnseen_1 : decode cX12_isUnseen 1 = .ok (.getfield 67, 3) := by decide +kernel
theorem dX12_isUnseen_4 : decode cX12_isUnseen 4 = .ok (.aload_n 0, 1) := by decide +kernel
theorem dX12_isUnseen_5 : decode cX12_isUnseen 5 = .ok (.getfield 70, 3) := by decide +kernel
theorem dX12_isUnseen_8 : decode cX12_isUnseen 8 = .ok (.invokestatic 331, 3) := by decide +kernel
theorem dX12_isUnseen_11 : decode cX12_isUnseen 11 = .ok (.aload_n 0, 1) := by decide +kernel
theorem dX12_isUnseen_12 : decode cX12_isUnseen 12 = .ok (.getfield 37, 3) := by decide +kernel
theorem dX12_isUnseen_15 : decode cX12_isUnseen 15 = .ok (.bipush 12, 2) := by decide +kernel
theorem dX12_isUnseen_17 : decode cX12_isUnseen 17 = .ok (.aaload, 1) := by decide +kernel
theorem dX12_isUnseen_18 : decode cX12_isUnseen 18 = .ok (.iconst 2, 1) := by decide +kernel
theorem dX12_isUnseen_19 : decode cX12_isUnseen 19 = .ok (.iload_n 2, 1) := by decide +kernel
theorem dX12_isUnseen_20 : decode cX12_isUnseen 20 = .ok (.iastore, 1) := by decide +kernel
theorem dX12_isUnseen_21 : decode cX12_isUnseen 21 = .ok (.aload_n 0, 1) := by decide +kernel
theorem dX12_isUnseen_22 : decode cX12_isUnseen 22 = .ok (.getfield 70, 3) := by decide +kernel
theorem dX12_isUnseen_25 : decode cX12_isUnseen 25 = .ok (.bipush 12, 2) := by decide +kernel
theorem dX12_isUnseen_27 : decode cX12_isUnseen 27 = .ok (.iload_n 3, 1) := by decide +kernel
theorem dX12_isUnseen_28 : decode cX12_isUnseen 28 = .ok (.iastore, 1) := by decide +kernel
theorem dX12_isUnseen_29 : decode cX12_isUnseen 29 = .ok (.aload_n 0, 1) := by decide +kernel
theorem dX12_isUnseen_30 : decode cX12_isUnseen 30 = .ok (.getfield 70, 3) := by decide +kernel
theorem dX12_isUnseen_33 : decode cX12_isUnseen 33 = .ok (.bipush 38, 2) := by decide +kernel
theorem dX12_isUnseen_35 : decode cX12_isUnseen 35 = .ok (.iload_n 1, 1) := by decide +kernel
theorem dX12_isUnseen_36 : decode cX12_isUnseen 36 = .ok (.iastore, 1) := by decide +kernel
theorem dX12_isUnseen_37 : decode cX12_isUnseen 37 = .ok (.iconst 1, 1) := by decide +kernel
theorem dX12_isUnseen_38 : decode cX12_isUnseen 38 = .ok (.istore 4, 2) := by decide +kernel
theorem dX12_isUnseen_40 : decode cX12_isUnseen 40 = .ok (.iload 4, 2) := by decide +kernel
theorem dX12_isUnseen_42 : decode cX12_isUnseen 42 = .ok (.bipush 12, 2) := by decide +kernel
theorem dX12_isUnseen_44 : decode cX12_isUnseen 44 = .ok (.if_icmp .gt 33, 3) := by decide +kernel
theorem dX12_isUnseen_47 : decode cX12_isUnseen 47 = .ok (.aload_n 0, 1) := by decide +kernel
theorem dX12_isUnseen_48 : decode cX12_isUnseen 48 = .ok (.aload_n 0, 1) := by decide +kernel
theorem dX12_isUnseen_49 : decode cX12_isUnseen 49 = .ok (.getfield 70, 3) := by decide +kernel
theorem dX12_isUnseen_52 : decode cX12_isUnseen 52 = .ok (.invokevirtual 314, 3) := by decide +kernel
theorem dX12_isUnseen_55 : decode cX12_isUnseen 55 = .ok (.aload_n 0, 1) := by decide +kernel
theorem dX12_isUnseen_56 : decode cX12_isUnseen 56 = .ok (.getfield 85, 3) := by decide +kernel
theorem dX12_isUnseen_59 : decode cX12_isUnseen 59 = .ok (.iload 4, 2) := by decide +kernel
theorem dX12_isUnseen_61 : decode cX12_isUnseen 61 = .ok (.aload_n 0, 1) := by decide +kernel
theorem dX12_isUnseen_62 : decode cX12_isUnseen 62 = .ok (.getfield 70, 3) := by decide +kernel
theorem dX12_isUnseen_65 : decode cX12_isUnseen 65 = .ok (.bipush 39, 2) := by decide +kernel
theorem dX12_isUnseen_67 : decode cX12_isUnseen 67 = .ok (.iload_n 1, 1) := by decide +kernel
theorem dX12_isUnseen_68 : decode cX12_isUnseen 68 = .ok (.iadd, 1) := by decide +kernel
theorem dX12_isUnseen_69 : decode cX12_isUnseen 69 = .ok (.iaload, 1) := by decide +kernel
theorem dX12_isUnseen_70 : decode cX12_isUnseen 70 = .ok (.iastore, 1) := by decide +kernel
theorem dX12_isUnseen_71 : decode cX12_isUnseen 71 = .ok (.iinc 4 1, 3) := by decide +kernel
theorem dX12_isUnseen_74 : decode cX12_isUnseen 74 = .ok (.goto (-34), 3) := by decide +kernel
theorem dX12_isUnseen_77 : decode cX12_isUnseen 77 = .ok (.iconst 0, 1) := by decide +kernel
theorem dX12_isUnseen_78 : decode cX12_isUnseen 78 = .ok (.istore 4, 2) := by decide +kernel
theorem dX12_isUnseen_80 : decode cX12_isUnseen 80 = .ok (.iload 4, 2) := by decide +kernel
theorem dX12_isUnseen_82 : decode cX12_isUnseen 82 = .ok (.aload_n 0, 1) := by decide +kernel
theorem dX12_isUnseen_83 : decode cX12_isUnseen 83 = .ok (.getfield 207, 3) := by decide +kernel
theorem dX12_isUnseen_86 : decode cX12_isUnseen 86 = .ok (.if_icmp .ge 37, 3) := by decide +kernel
theorem dX12_isUnseen_89 : decode cX12_isUnseen 89 = .ok (.aload_n 0, 1) := by decide +kernel
theorem dX12_isUnseen_90 : decode cX12_isUnseen 90 = .ok (.getfield 85, 3) := by decide +kernel
theorem dX12_isUnseen_93 : decode cX12_isUnseen 93 = .ok (.aload_n 0, 1) := by decide +kernel
theorem dX12_isUnseen_94 : decode cX12_isUnseen 94 = .ok (.getfield 52, 3) := by decide +kernel
theorem dX12_isUnseen_97 : decode cX12_isUnseen 97 = .ok (.iload 4, 2) := by decide +kernel
theorem dX12_isUnseen_99 : decode cX12_isUnseen 99 = .ok (.aaload, 1) := by decide +kernel
theorem dX12_isUnseen_100 : decode cX12_isUnseen 100 = .ok (.iconst 0, 1) := by decide +kernel
theorem dX12_isUnseen_101 : decode cX12_isUnseen 101 = .ok (.iaload, 1) := by decide +kernel
theorem dX12_isUnseen_102 : decode cX12_isUnseen 102 = .ok (.iaload, 1) := by decide +kernel
theorem dX12_isUnseen_103 : decode cX12_isUnseen 103 = .ok (.aload_n 0, 1) := by decide +kernel
theorem dX12_isUnseen_104 : decode cX12_isUnseen 104 = .ok (.getfield 52, 3) := by decide +kernel
theorem dX12_isUnseen_107 : decode cX12_isUnseen 107 = .ok (.iload 4, 2) := by decide +kernel
theorem dX12_isUnseen_109 : decode cX12_isUnseen 109 = .ok (.aaload, 1) := by decide +kernel
theorem dX12_isUnseen_110 : decode cX12_isUnseen 110 = .ok (.iconst 1, 1) := by decide +kernel
theorem dX12_isUnseen_111 : decode cX12_isUnseen 111 = .ok (.iaload, 1) := by decide +kernel
theorem dX12_isUnseen_112 : decode cX12_isUnseen 112 = .ok (.if_icmp .eq 5, 3) := by decide +kernel
theorem dX12_isUnseen_115 : decode cX12_isUnseen 115 = .ok (.iconst 0, 1) := by decide +kernel
theorem dX12_isUnseen_116 : decode cX12_isUnseen 116 = .ok (.ireturn, 1) := by decide +kernel
theorem dX12_isUnseen_117 : decode cX12_isUnseen 117 = .ok (.iinc 4 1, 3) := by decide +kernel
theorem dX12_isUnseen_120 : decode cX12_isUnseen 120 = .ok (.goto (-40), 3) := by decide +kernel
theorem dX12_isUnseen_123 : decode cX12_isUnseen 123 = .ok (.iconst 1, 1) := by decide +kernel
theorem dX12_isUnseen_124 : decode cX12_isUnseen 124 = .ok (.ireturn, 1) := by decide +kernel
theorem dX12_unseen_0 : decode cX12_unseen 0 = .ok (.aload_n 0, 1) := by decide +kernel
theorem dX12_unseen_1 : decode cX12_unseen 1 = .ok (.iconst 0, 1) := by decide +kernel
theorem dX12_unseen_2 : decode cX12_unseen 2 = .ok (.putfield 104, 3) := by decide +kernel
theorem dX12_unseen_5 : decode cX12_unseen 5 = .ok (.aload_n 0, 1) := by decide +kernel
theorem dX12_unseen_6 : decode cX12_unseen 6 = .ok (.aload_n 0, 1) := by decide +kernel
theorem dX12_unseen_7 : decode cX12_unseen 7 = .ok (.iload_n 1, 1) := by decide +kernel
theorem dX12_unseen_8 : decode cX12_unseen 8 = .ok (.invokevirtual 348, 3) := by decide +kernel
theorem dX12_unseen_11 : decode cX12_unseen 11 = .ok (.ifCond .ne 7, 3) := by decide +kernel
theorem dX12_unseen_14 : decode cX12_unseen 14 = .ok (.iconst 1, 1) := by decide +kernel
theorem dX12_unseen_15 : decode cX12_unseen 15 = .ok (.goto 4, 3) := by decide +kernel
theorem dX12_unseen_18 : decode cX12_unseen 18 = .ok (.iconst 0, 1) := by decide +kernel
theorem dX12_unseen_19 : decode cX12_unseen 19 = .ok (.iconst 1, 1) := by decide +kernel
theorem dX12_unseen_20 : decode cX12_unseen 20 = .ok (.iconst 0, 1) := by decide +kernel
theorem dX12_unseen_21 : decode cX12_unseen 21 = .ok (.invokevirtual 183, 3) := by decide +kernel
theorem dX12_unseen_24 : decode cX12_unseen 24 = .ok (.ifCond .ne 26, 3) := by decide +kernel
theorem dX12_unseen_27 : decode cX12_unseen 27 = .ok (.aload_n 0, 1) := by decide +kernel
theorem dX12_unseen_28 : decode cX12_unseen 28 = .ok (.iload_n 2, 1) := by decide +kernel
theorem dX12_unseen_29 : decode cX12_unseen 29 = .ok (.iconst 0, 1) := by decide +kernel
theorem dX12_unseen_30 : decode cX12_unseen 30 = .ok (.iconst 1, 1) := by decide +kernel
theorem dX12_unseen_31 : decode cX12_unseen 31 = .ok (.invokestatic 138, 3) := by decide +kernel
theorem dX12_unseen_34 : decode cX12_unseen 34 = .ok (.ifCond .ne 7, 3) := by decide +kernel
theorem dX12_unseen_37 : decode cX12_unseen 37 = .ok (.iconst 1, 1) := by decide +kernel
theorem dX12_unseen_38 : decode cX12_unseen 38 = .ok (.goto 4, 3) := by decide +kernel
theorem dX12_unseen_41 : decode cX12_unseen 41 = .ok (.iconst 0, 1) := by decide +kernel
theorem dX12_unseen_42 : decode cX12_unseen 42 = .ok (.iconst 2, 1) := by decide +kernel
theorem dX12_unseen_43 : decode cX12_unseen 43 = .ok (.iconst 1, 1) := by decide +kernel
theorem dX12_unseen_44 : decode cX12_unseen 44 = .ok (.invokevirtual 183, 3) := by decide +kernel
theorem dX12_unseen_47 : decode cX12_unseen 47 = .ok (.ifCond .eq 5, 3) := by decide +kernel
theorem dX12_unseen_50 : decode cX12_unseen 50 = .ok (.iconst 0, 1) := by decide +kernel
theorem dX12_unseen_51 : decode cX12_unseen 51 = .ok (.ireturn, 1) := by decide +kernel
theorem dX12_unseen_52 : decode cX12_unseen 52 = .ok (.iconst 0, 1) := by decide +kernel
theorem dX12_unseen_53 : decode cX12_unseen 53 = .ok (.istore_n 3, 1) := by decide +kernel
theorem dX12_unseen_54 : decode cX12_unseen 54 = .ok (.iconst (-1), 1) := by decide +kernel
theorem dX12_unseen_55 : decode cX12_unseen 55 = .ok (.istore 4, 2) := by decide +kernel
theorem dX12_unseen_57 : decode cX12_unseen 57 = .ok (.iconst 0, 1) := by decide +kernel
theorem dX12_unseen_58 : decode cX12_unseen 58 = .ok (.istore 5, 2) := by decide +kernel
theorem dX12_unseen_60 : decode cX12_unseen 60 = .ok (.iload 5, 2) := by decide +kernel
theorem dX12_unseen_62 : decode cX12_unseen 62 = .ok (.bipush 6, 2) := by decide +kernel
theorem dX12_unseen_64 : decode cX12_unseen 64 = .ok (.if_icmp .ge 62, 3) := by decide +kernel
theorem dX12_unseen_67 : decode cX12_unseen 67 = .ok (.iconst 1, 1) := by decide +kernel
theorem dX12_unseen_68 : decode cX12_unseen 68 = .ok (.istore 6, 2) := by decide +kernel
theorem dX12_unseen_70 : decode cX12_unseen 70 = .ok (.iload 6, 2) := by decide +kernel
theorem dX12_unseen_72 : decode cX12_unseen 72 = .ok (.bipush 30, 2) := by decide +kernel
theorem dX12_unseen_74 : decode cX12_unseen 74 = .ok (.if_icmp .gt 46, 3) := by decide +kernel
theorem dX12_unseen_77 : decode cX12_unseen 77 = .ok (.aload_n 0, 1) := by decide +kernel
theorem dX12_unseen_78 : decode cX12_unseen 78 = .ok (.iload_n 1, 1) := by decide +kernel
theorem dX12_unseen_79 : decode cX12_unseen 79 = .ok (.iload 5, 2) := by decide +kernel
theorem dX12_unseen_81 : decode cX12_unseen 81 = .ok (.iload 6, 2) := by decide +kernel
theorem dX12_unseen_83 : decode cX12_unseen 83 = .ok (.invokevirtual 372, 3) := by decide +kernel
theorem dX12_unseen_86 : decode cX12_unseen 86 = .ok (.ifCond .ne 6, 3) := by decide +kernel
theorem dX12_unseen_89 : decode cX12_unseen 89 = .ok (.goto 25, 3) := by decide +kernel
theorem dX12_unseen_92 : decode cX12_unseen 92 = .ok (.iload_n 3, 1) := by decide +kernel
theorem dX12_unseen_93 : decode cX12_unseen 93 = .ok (.ifCond .ne 14, 3) := by decide +kernel
theorem dX12_unseen_96 : decode cX12_unseen 96 = .ok (.bipush 100, 2) := by decide +kernel
theorem dX12_unseen_98 : decode cX12_unseen 98 = .ok (.iload 5, 2) := by decide +kernel
theorem dX12_unseen_100 : decode cX12_unseen 100 = .ok (.imul, 1) := by decide +kernel
theorem dX12_unseen_101 : decode cX12_unseen 101 = .ok (.iload 6, 2) := by decide +kernel
theorem dX12_unseen_103 : decode cX12_unseen 103 = .ok (.iadd, 1) := by decide +kernel
theorem dX12_unseen_104 : decode cX12_unseen 104 = .ok (.goto 5, 3) := by decide +kernel
theorem dX12_unseen_107 : decode cX12_unseen 107 = .ok (.iload 4, 2) := by decide +kernel
theorem dX12_unseen_109 : decode cX12_unseen 109 = .ok (.istore 4, 2) := by decide +kernel
theorem dX12_unseen_111 : decode cX12_unseen 111 = .ok (.iinc 3 1, 3) := by decide +kernel
theorem dX12_unseen_114 : decode cX12_unseen 114 = .ok (.iinc 6 1, 3) := by decide +kernel
theorem dX12_unseen_117 : decode cX12_unseen 117 = .ok (.goto (-47), 3) := by decide +kernel
theorem dX12_unseen_120 : decode cX12_unseen 120 = .ok (.iinc 5 1, 3) := by decide +kernel
theorem dX12_unseen_123 : decode cX12_unseen 123 = .ok (.goto (-63), 3) := by decide +kernel
theorem dX12_unseen_126 : decode cX12_unseen 126 = .ok (.iload_n 2, 1) := by decide +kernel
theorem dX12_unseen_127 : decode cX12_unseen 127 = .ok (.ifCond .ne 7, 3) := by decide +kernel
theorem dX12_unseen_130 : decode cX12_unseen 130 = .ok (.iload_n 3, 1) := by decide +kernel
theorem dX12_unseen_131 : decode cX12_unseen 131 = .ok (.goto 5, 3) := by decide +kernel
theorem dX12_unseen_134 : decode cX12_unseen 134 = .ok (.iload 4, 2) := by decide +kernel
theorem dX12_unseen_136 : decode cX12_unseen 136 = .ok (.ireturn, 1) := by decide +kernel
theorem dX12_isTold_0 : decode cX12_isTold 0 = .ok (.iconst 0, 1) := by decide +kernel
theorem dX12_isTold_1 : decode cX12_isTold 1 = .ok (.istore_n 2, 1) := by decide +kernel
theorem dX12_isTold_2 : decode cX12_isTold 2 = .ok (.iload_n 2, 1) := by decide +kernel
theorem dX12_isTold_3 : decode cX12_isTold 3 = .ok (.aload_n 0, 1) := by decide +kernel
theorem dX12_isTold_4 : decode cX12_isTold 4 = .ok (.getfield 207, 3) := by decide +kernel
theorem dX12_isTold_7 : decode cX12_isTold 7 = .ok (.if_icmp .ge 23, 3) := by decide +kernel
theorem dX12_isTold_10 : decode cX12_isTold 10 = .ok (.aload_n 0, 1) := by decide +kernel
theorem dX12_isTold_11 : decode cX12_isTold 11 = .ok (.getfield 52, 3) := by decide +kernel
theorem dX12_isTold_14 : decode cX12_isTold 14 = .ok (.iload_n 2, 1) := by decide +kernel
theorem dX12_isTold_15 : decode cX12_isTold 15 = .ok (.aaload, 1) := by decide +kernel
theorem dX12_isTold_16 : decode cX12_isTold 16 = .ok (.iconst 0, 1) := by decide +kernel
theorem dX12_isTold_17 : decode cX12_isTold 17 = .ok (.iaload, 1) := by decide +kernel
theorem dX12_isTold_18 : decode cX12_isTold 18 = .ok (.iload_n 1, 1) := by decide +kernel
theorem dX12_isTold_19 : decode cX12_isTold 19 = .ok (.if_icmp .ne 5, 3) := by decide +kernel
theorem dX12_isTold_22 : decode cX12_isTold 22 = .ok (.iconst 1, 1) := by decide +kernel
theorem dX12_isTold_23 : decode cX12_isTold 23 = .ok (.ireturn, 1) := by decide +kernel
theorem dX12_isTold_24 : decode cX12_isTold 24 = .ok (.iinc 2 1, 3) := by decide +kernel
theorem dX12_isTold_27 : decode cX12_isTold 27 = .ok (.goto (-25), 3) := by decide +kernel
theorem dX12_isTold_30 : decode cX12_isTold 30 = .ok (.iconst 0, 1) := by decide +kernel
theorem dX12_isTold_31 : decode cX12_isTold 31 = .ok (.ireturn, 1) := by decide +kernel
theorem dX12_worstAt_0 : decode cX12_worstAt 0 = .ok (.iconst 0, 1) := by decide +kernel
theorem dX12_worstAt_1 : decode cX12_worstAt 1 = .ok (.istore_n 3, 1) := by decide +kernel
theorem dX12_worstAt_2 : decode cX12_worstAt 2 = .ok (.iconst 0, 1) := by decide +kernel
theorem dX12_worstAt_3 : decode cX12_worstAt 3 = .ok (.istore 4, 2) := by decide +kernel
theorem dX12_worstAt_5 : decode cX12_worstAt 5 = .ok (.iload 4, 2) := by decide +kernel
theorem dX12_worstAt_7 : decode cX12_worstAt 7 = .ok (.bipush 99, 2) := by decide +kernel
theorem dX12_worstAt_9 : decode cX12_worstAt 9 = .ok (.if_icmp .gt 17, 3) := by decide +kernel
theorem dX12_worstAt_12 : decode cX12_worstAt 12 = .ok (.aload_n 0, 1) := by decide +kernel
theorem dX12_worstAt_13 : decode cX12_worstAt 13 = .ok (.getfield 88, 3) := by decide +kernel
theorem dX12_worstAt_16 : decode cX12_worstAt 16 = .ok (.iload 4, 2) := by decide +kernel
theorem dX12_worstAt_18 : decode cX12_worstAt 18 = .ok (.iconst 0, 1) := by decide +kernel
theorem dX12_worstAt_19 : decode cX12_worstAt 19 = .ok (.iastore, 1) := by decide +kernel
theorem dX12_worstAt_20 : decode cX12_worstAt 20 = .ok (.iinc 4 1, 3) := by decide +kernel
theorem dX12_worstAt_23 : decode cX12_worstAt 23 = .ok (.goto (-18), 3) := by decide +kernel
theorem dX12_worstAt_26 : decode cX12_worstAt 26 = .ok (.iconst 0, 1) := by decide +kernel
theorem dX12_worstAt_27 : decode cX12_worstAt 27 = .ok (.istore 4, 2) := by decide +kernel
theorem dX12_worstAt_29 : decode cX12_worstAt 29 = .ok (.iload 4, 2) := by decide +kernel
theorem dX12_worstAt_31 : decode cX12_worstAt 31 = .ok (.bipush 6, 2) := by decide +kernel
theorem dX12_worstAt_33 : decode cX12_worstAt 33 = .ok (.if_icmp .ge 71, 3) := by decide +kernel
theorem dX12_worstAt_36 : decode cX12_worstAt 36 = .ok (.iconst 1, 1) := by decide +kernel
theorem dX12_worstAt_37 : decode cX12_worstAt 37 = .ok (.istore 5, 2) := by decide +kernel
theorem dX12_worstAt_39 : decode cX12_worstAt 39 = .ok (.iload 5, 2) := by decide +kernel
theorem dX12_worstAt_41 : decode cX12_worstAt 41 = .ok (.bipush 30, 2) := by decide +kernel
theorem dX12_worstAt_43 : decode cX12_worstAt 43 = .ok (.if_icmp .gt 55, 3) := by decide +kernel
theorem dX12_worstAt_46 : decode cX12_worstAt 46 = .ok (.aload_n 0, 1) := by decide +kernel
theorem dX12_worstAt_47 : decode cX12_worstAt 47 = .ok (.iload_n 1, 1) := by decide +kernel
theorem dX12_worstAt_48 : decode cX12_worstAt 48 = .ok (.iload 4, 2) := by decide +kernel
theorem dX12_worstAt_50 : decode cX12_worstAt 50 = .ok (.iload 5, 2) := by decide +kernel
theorem dX12_worstAt_52 : decode cX12_worstAt 52 = .ok (.invokevirtual 372, 3) := by decide +kernel
theorem dX12_worstAt_55 : decode cX12_worstAt 55 = .ok (.ifCond .ne 6, 3) := by decide +kernel
theorem dX12_worstAt_58 : decode cX12_worstAt 58 = .ok (.goto 34, 3) := by decide +kernel
theorem dX12_worstAt_61 : decode cX12_worstAt 61 = .ok (.aload_n 0, 1) := by decide +kernel
theorem dX12_worstAt_62 : decode cX12_worstAt 62 = .ok (.getfield 88, 3) := by decide +kernel
theorem dX12_worstAt_65 : decode cX12_worstAt 65 = .ok (.aload_n 0, 1) := by decide +kernel
theorem dX12_worstAt_66 : decode cX12_worstAt 66 = .ok (.getfield 85, 3) := by decide +kernel
theorem dX12_worstAt_69 : decode cX12_worstAt 69 = .ok (.iload_n 2, 1) := by decide +kernel
theorem dX12_worstAt_70 : decode cX12_worstAt 70 = .ok (.iaload, 1) := by decide +kernel
theorem dX12_worstAt_71 : decode cX12_worstAt 71 = .ok (.dup2, 1) := by decide +kernel
theorem dX12_worstAt_72 : decode cX12_worstAt 72 = .ok (.iaload, 1) := by decide +kernel
theorem dX12_worstAt_73 : decode cX12_worstAt 73 = .ok (.iconst 1, 1) := by decide +kernel
theorem dX12_worstAt_74 : decode cX12_worstAt 74 = .ok (.iadd, 1) := by decide +kernel
theorem dX12_worstAt_75 : decode cX12_worstAt 75 = .ok (.iastore, 1) := by decide +kernel
theorem dX12_worstAt_76 : decode cX12_worstAt 76 = .ok (.iload_n 3, 1) := by decide +kernel
theorem dX12_worstAt_77 : decode cX12_worstAt 77 = .ok (.aload_n 0, 1) := by decide +kernel
theorem dX12_worstAt_78 : decode cX12_worstAt 78 = .ok (.getfield 88, 3) := by decide +kernel
theorem dX12_worstAt_81 : decode cX12_worstAt 81 = .ok (.aload_n 0, 1) := by decide +kernel
theorem dX12_worstAt_82 : decode cX12_worstAt 82 = .ok (.getfield 85, 3) := by decide +kernel
theorem dX12_worstAt_85 : decode cX12_worstAt 85 = .ok (.iload_n 2, 1) := by decide +kernel
theorem dX12_worstAt_86 : decode cX12_worstAt 86 = .ok (.iaload, 1) := by decide +kernel
theorem dX12_worstAt_87 : decode cX12_worstAt 87 = .ok (.iaload, 1) := by decide +kernel
theorem dX12_worstAt_88 : decode cX12_worstAt 88 = .ok (.invokestatic 250, 3) := by decide +kernel
theorem dX12_worstAt_91 : decode cX12_worstAt 91 = .ok (.istore_n 3, 1) := by decide +kernel
theorem dX12_worstAt_92 : decode cX12_worstAt 92 = .ok (.iinc 5 1, 3) := by decide +kernel
theorem dX12_worstAt_95 : decode cX12_worstAt 95 = .ok (.goto (-56), 3) := by decide +kernel
theorem dX12_worstAt_98 : decode cX12_worstAt 98 = .ok (.iinc 4 1, 3) := by decide +kernel
theorem dX12_worstAt_101 : decode cX12_worstAt 101 = .ok (.goto (-72), 3) := by decide +kernel
theorem dX12_worstAt_104 : decode cX12_worstAt 104 = .ok (.iload_n 3, 1) := by decide +kernel
theorem dX12_worstAt_105 : decode cX12_worstAt 105 = .ok (.ireturn, 1) := by decide +kernel
theorem dX12_look_0 : decode cX12_look 0 = .ok (.aload_n 0, 1) := by decide +kernel
theorem dX12_look_1 : decode cX12_look 1 = .ok (.iconst 0, 1) := by decide +kernel
theorem dX12_look_2 : decode cX12_look 2 = .ok (.putfield 104, 3) := by decide +kernel
theorem dX12_look_5 : decode cX12_look 5 = .ok (.aload_n 0, 1) := by decide +kernel
theorem dX12_look_6 : decode cX12_look 6 = .ok (.aload_n 0, 1) := by decide +kernel
theorem dX12_look_7 : decode cX12_look 7 = .ok (.iload_n 1, 1) := by decide +kernel
theorem dX12_look_8 : decode cX12_look 8 = .ok (.invokevirtual 348, 3) := by decide +kernel
theorem dX12_look_11 : decode cX12_look 11 = .ok (.ifCond .ne 7, 3) := by decide +kernel
theorem dX12_look_14 : decode cX12_look 14 = .ok (.iconst 1, 1) := by decide +kernel
theorem dX12_look_15 : decode cX12_look 15 = .ok (.goto 4, 3) := by decide +kernel
theorem dX12_look_18 : decode cX12_look 18 = .ok (.iconst 0, 1) := by decide +kernel
theorem dX12_look_19 : decode cX12_look 19 = .ok (.iconst 1, 1) := by decide +kernel
theorem dX12_look_20 : decode cX12_look 20 = .ok (.iconst 0, 1) := by decide +kernel
theorem dX12_look_21 : decode cX12_look 21 = .ok (.invokevirtual 183, 3) := by decide +kernel
theorem dX12_look_24 : decode cX12_look 24 = .ok (.ifCond .ne 26, 3) := by decide +kernel
theorem dX12_look_27 : decode cX12_look 27 = .ok (.aload_n 0, 1) := by decide +kernel
theorem dX12_look_28 : decode cX12_look 28 = .ok (.iload_n 2, 1) := by decide +kernel
theorem dX12_look_29 : decode cX12_look 29 = .ok (.iconst 0, 1) := by decide +kernel
theorem dX12_look_30 : decode cX12_look 30 = .ok (.iconst 1, 1) := by decide +kernel
theorem dX12_look_31 : decode cX12_look 31 = .ok (.invokestatic 138, 3) := by decide +kernel
theorem dX12_look_34 : decode cX12_look 34 = .ok (.ifCond .ne 7, 3) := by decide +kernel
theorem dX12_look_37 : decode cX12_look 37 = .ok (.iconst 1, 1) := by decide +kernel
theorem dX12_look_38 : decode cX12_look 38 = .ok (.goto 4, 3) := by decide +kernel
theorem dX12_look_41 : decode cX12_look 41 = .ok (.iconst 0, 1) := by decide +kernel
theorem dX12_look_42 : decode cX12_look 42 = .ok (.iconst 2, 1) := by decide +kernel
theorem dX12_look_43 : decode cX12_look 43 = .ok (.iconst 1, 1) := by decide +kernel
theorem dX12_look_44 : decode cX12_look 44 = .ok (.invokevirtual 183, 3) := by decide +kernel
theorem dX12_look_47 : decode cX12_look 47 = .ok (.ifCond .eq 5, 3) := by decide +kernel
theorem dX12_look_50 : decode cX12_look 50 = .ok (.iconst 0, 1) := by decide +kernel
theorem dX12_look_51 : decode cX12_look 51 = .ok (.ireturn, 1) := by decide +kernel
theorem dX12_look_52 : decode cX12_look 52 = .ok (.iconst (-1), 1) := by decide +kernel
theorem dX12_look_53 : decode cX12_look 53 = .ok (.istore_n 3, 1) := by decide +kernel
theorem dX12_look_54 : decode cX12_look 54 = .ok (.iconst (-1), 1) := by decide +kernel
theorem dX12_look_55 : decode cX12_look 55 = .ok (.istore 4, 2) := by decide +kernel
theorem dX12_look_57 : decode cX12_look 57 = .ok (.iconst 1, 1) := by decide +kernel
theorem dX12_look_58 : decode cX12_look 58 = .ok (.istore 5, 2) := by decide +kernel
theorem dX12_look_60 : decode cX12_look 60 = .ok (.iload 5, 2) := by decide +kernel
theorem dX12_look_62 : decode cX12_look 62 = .ok (.bipush 12, 2) := by decide +kernel
theorem dX12_look_64 : decode cX12_look 64 = .ok (.if_icmp .gt 52, 3) := by decide +kernel
theorem dX12_look_67 : decode cX12_look 67 = .ok (.aload_n 0, 1) := by decide +kernel
theorem dX12_look_68 : decode cX12_look 68 = .ok (.iload 5, 2) := by decide +kernel
theorem dX12_look_70 : decode cX12_look 70 = .ok (.invokevirtual 375, 3) := by decide +kernel
theorem dX12_look_73 : decode cX12_look 73 = .ok (.ifCond .eq 6, 3) := by decide +kernel
theorem dX12_look_76 : decode cX12_look 76 = .ok (.goto 34, 3) := by decide +kernel
theorem dX12_look_79 : decode cX12_look 79 = .ok (.aload_n 0, 1) := by decide +kernel
theorem dX12_look_80 : decode cX12_look 80 = .ok (.iload_n 1, 1) := by decide +kernel
theorem dX12_look_81 : decode cX12_look 81 = .ok (.iload 5, 2) := by decide +kernel
theorem dX12_look_83 : decode cX12_look 83 = .ok (.invokevirtual 378, 3) := by decide +kernel
theorem dX12_look_86 : decode cX12_look 86 = .ok (.istore 6, 2) := by decide +kernel
theorem dX12_look_88 : decode cX12_look 88 = .ok (.iload_n 3, 1) := by decide +kernel
theorem dX12_look_89 : decode cX12_look 89 = .ok (.iconst (-1), 1) := by decide +kernel
theorem dX12_look_90 : decode cX12_look 90 = .ok (.if_icmp .eq 13, 3) := by decide +kernel
theorem dX12_look_93 : decode cX12_look 93 = .ok (.iload 6, 2) := by decide +kernel
theorem dX12_look_95 : decode cX12_look 95 = .ok (.iload 4, 2) := by decide +kernel
theorem dX12_look_97 : decode cX12_look 97 = .ok (.if_icmp .lt 6, 3) := by decide +kernel
theorem dX12_look_100 : decode cX12_look 100 = .ok (.goto 10, 3) := by decide +kernel
theorem dX12_look_103 : decode cX12_look 103 = .ok (.iload 5, 2) := by decide +kernel
theorem dX12_look_105 : decode cX12_look 105 = .ok (.istore_n 3, 1) := by decide +kernel
theorem dX12_look_106 : decode cX12_look 106 = .ok (.iload 6, 2) := by decide +kernel
theorem dX12_look_108 : decode cX12_look 108 = .ok (.istore 4, 2) := by decide +kernel
theorem dX12_look_110 : decode cX12_look 110 = .ok (.iinc 5 1, 3) := by decide +kernel
theorem dX12_look_113 : decode cX12_look 113 = .ok (.goto (-53), 3) := by decide +kernel
theorem dX12_look_116 : decode cX12_look 116 = .ok (.iload_n 2, 1) := by decide +kernel
theorem dX12_look_117 : decode cX12_look 117 = .ok (.ifCond .ne 7, 3) := by decide +kernel
theorem dX12_look_120 : decode cX12_look 120 = .ok (.iload_n 3, 1) := by decide +kernel
theorem dX12_look_121 : decode cX12_look 121 = .ok (.goto 5, 3) := by decide +kernel
theorem dX12_look_124 : decode cX12_look 124 = .ok (.iload 4, 2) := by decide +kernel
theorem dX12_look_126 : decode cX12_look 126 = .ok (.ireturn, 1) := by decide +kernel
theorem dX12_further_0 : decode cX12_further 0 = .ok (.iload_n 1, 1) := by decide +kernel
theorem dX12_further_1 : decode cX12_further 1 = .ok (.istore_n 2, 1) := by decide +kernel
theorem dX12_further_2 : decode cX12_further 2 = .ok (.iconst 0, 1) := by decide +kernel
theorem dX12_further_3 : decode cX12_further 3 = .ok (.istore_n 3, 1) := by decide +kernel
theorem dX12_further_4 : decode cX12_further 4 = .ok (.iload_n 3, 1) := by decide +kernel
theorem dX12_further_5 : decode cX12_further 5 = .ok (.aload_n 0, 1) := by decide +kernel
theorem dX12_further_6 : decode cX12_further 6 = .ok (.getfield 23, 3) := by decide +kernel
theorem dX12_further_9 : decode cX12_further 9 = .ok (.iconst 1, 1) := by decide +kernel
theorem dX12_further_10 : decode cX12_further 10 = .ok (.iaload, 1) := by decide +kernel
theorem dX12_further_11 : decode cX12_further 11 = .ok (.if_icmp .ge 52, 3) := by decide +kernel
theorem dX12_further_14 : decode cX12_further 14 = .ok (.iload_n 2, 1) := by decide +kernel
theorem dX12_further_15 : decode cX12_further 15 = .ok (.aload_n 0, 1) := by decide +kernel
theorem dX12_further_16 : decode cX12_further 16 = .ok (.getfield 67, 3) := by decide +kernel
theorem dX12_further_19 : decode cX12_further 19 = .ok (.iload_n 3, 1) := by decide +kernel
theorem dX12_further_20 : decode cX12_further 20 = .ok (.invokestatic 273, 3) := by decide +kernel
theorem dX12_further_23 : decode cX12_further 23 = .ok (.ifCond .eq 31, 3) := by decide +kernel
theorem dX12_further_26 : decode cX12_further 26 = .ok (.iload_n 1, 1) := by decide +kernel
theorem dX12_further_27 : decode cX12_further 27 = .ok (.aload_n 0, 1) := by decide +kernel
theorem dX12_further_28 : decode cX12_further 28 = .ok (.getfield 37, 3) := by decide +kernel
theorem dX12_further_31 : decode cX12_further 31 = .ok (.iload_n 3, 1) := by decide +kernel
theorem dX12_further_32 : decode cX12_further 32 = .ok (.aaload, 1) := by decide +kernel
theorem dX12_further_33 : decode cX12_further 33 = .ok (.iconst 1, 1) := by decide +kernel
theorem dX12_further_34 : decode cX12_further 34 = .ok (.iaload, 1) := by decide +kernel
theorem dX12_further_35 : decode cX12_further 35 = .ok (.invokestatic 266, 3) := by decide +kernel
theorem dX12_further_38 : decode cX12_further 38 = .ok (.ifCond .eq 16, 3) := by decide +kernel
theorem dX12_further_41 : decode cX12_further 41 = .ok (.iconst 1, 1) := by decide +kernel
theorem dX12_further_42 : decode cX12_further 42 = .ok (.aload_n 0, 1) := by decide +kernel
theorem dX12_further_43 : decode cX12_further 43 = .ok (.getfield 37, 3) := by decide +kernel
theorem dX12_further_46 : decode cX12_further 46 = .ok (.iload_n 3, 1) := by decide +kernel
theorem dX12_further_47 : decode cX12_further 47 = .ok (.aaload, 1) := by decide +kernel
theorem dX12_further_48 : decode cX12_further 48 = .ok (.iconst 0, 1) := by decide +kernel
theorem dX12_further_49 : decode cX12_further 49 = .ok (.iaload, 1) := by decide +kernel
theorem dX12_further_50 : decode cX12_further 50 = .ok (.ishl, 1) := by decide +kernel
theorem dX12_further_51 : decode cX12_further 51 = .ok (.goto 4, 3) := by decide +kernel
theorem dX12_further_54 : decode cX12_further 54 = .ok (.iconst 0, 1) := by decide +kernel
theorem dX12_further_55 : decode cX12_further 55 = .ok (.ior, 1) := by decide +kernel
theorem dX12_further_56 : decode cX12_further 56 = .ok (.istore_n 2, 1) := by decide +kernel
theorem dX12_further_57 : decode cX12_further 57 = .ok (.iinc 3 1, 3) := by decide +kernel
theorem dX12_further_60 : decode cX12_further 60 = .ok (.goto (-56), 3) := by decide +kernel
theorem dX12_further_63 : decode cX12_further 63 = .ok (.iload_n 2, 1) := by decide +kernel
theorem dX12_further_64 : decode cX12_further 64 = .ok (.ireturn, 1) := by decide +kernel
theorem dX12_way_0 : decode cX12_way 0 = .ok (.aload_n 0, 1) := by decide +kernel
theorem dX12_way_1 : decode cX12_way 1 = .ok (.iconst 0, 1) := by decide +kernel
theorem dX12_way_2 : decode cX12_way 2 = .ok (.putfield 104, 3) := by decide +kernel
theorem dX12_way_5 : decode cX12_way 5 = .ok (.aload_n 0, 1) := by decide +kernel
theorem dX12_way_6 : decode cX12_way 6 = .ok (.aload_n 0, 1) := by decide +kernel
theorem dX12_way_7 : decode cX12_way 7 = .ok (.iload_n 1, 1) := by decide +kernel
theorem dX12_way_8 : decode cX12_way 8 = .ok (.invokevirtual 348, 3) := by decide +kernel
theorem dX12_way_11 : decode cX12_way 11 = .ok (.ifCond .eq 11, 3) := by decide +kernel
theorem dX12_way_14 : decode cX12_way 14 = .ok (.aload_n 0, 1) := by decide +kernel
theorem dX12_way_15 : decode cX12_way 15 = .ok (.iload_n 2, 1) := by decide +kernel
theorem dX12_way_16 : decode cX12_way 16 = .ok (.invokevirtual 348, 3) := by decide +kernel
theorem dX12_way_19 : decode cX12_way 19 = .ok (.ifCond .ne 7, 3) := by decide +kernel
theorem dX12_way_22 : decode cX12_way 22 = .ok (.iconst 1, 1) := by decide +kernel
theorem dX12_way_23 : decode cX12_way 23 = .ok (.goto 4, 3) := by decide +kernel
theorem dX12_way_26 : decode cX12_way 26 = .ok (.iconst 0, 1) := by decide +kernel
theorem dX12_way_27 : decode cX12_way 27 = .ok (.iconst 1, 1) := by decide +kernel
theorem dX12_way_28 : decode cX12_way 28 = .ok (.iconst 0, 1) := by decide +kernel
theorem dX12_way_29 : decode cX12_way 29 = .ok (.invokevirtual 183, 3) := by decide +kernel
theorem dX12_way_32 : decode cX12_way 32 = .ok (.ifCond .eq 5, 3) := by decide +kernel
theorem dX12_way_35 : decode cX12_way 35 = .ok (.iconst 0, 1) := by decide +kernel
theorem dX12_way_36 : decode cX12_way 36 = .ok (.ireturn, 1) := by decide +kernel
theorem dX12_way_37 : decode cX12_way 37 = .ok (.iconst 1, 1) := by decide +kernel
theorem dX12_way_38 : decode cX12_way 38 = .ok (.iload_n 1, 1) := by decide +kernel
theorem dX12_way_39 : decode cX12_way 39 = .ok (.ishl, 1) := by decide +kernel
theorem dX12_way_40 : decode cX12_way 40 = .ok (.istore_n 3, 1) := by decide +kernel
theorem dX12_way_41 : decode cX12_way 41 = .ok (.iconst 0, 1) := by decide +kernel
theorem dX12_way_42 : decode cX12_way 42 = .ok (.istore 4, 2) := by decide +kernel
theorem dX12_way_44 : decode cX12_way 44 = .ok (.iload 4, 2) := by decide +kernel
theorem dX12_way_46 : decode cX12_way 46 = .ok (.aload_n 0, 1) := by decide +kernel
theorem dX12_way_47 : decode cX12_way 47 = .ok (.getfield 23, 3) := by decide +kernel
theorem dX12_way_50 : decode cX12_way 50 = .ok (.iconst 0, 1) := by decide +kernel
theorem dX12_way_51 : decode cX12_way 51 = .ok (.iaload, 1) := by decide +kernel
theorem dX12_way_52 : decode cX12_way 52 = .ok (.if_icmp .ge 26, 3) := by decide +kernel
theorem dX12_way_55 : decode cX12_way 55 = .ok (.iload_n 3, 1) := by decide +kernel
theorem dX12_way_56 : decode cX12_way 56 = .ok (.iload_n 2, 1) := by decide +kernel
theorem dX12_way_57 : decode cX12_way 57 = .ok (.invokestatic 266, 3) := by decide +kernel
theorem dX12_way_60 : decode cX12_way 60 = .ok (.ifCond .eq 6, 3) := by decide +kernel
theorem dX12_way_63 : decode cX12_way 63 = .ok (.iload 4, 2) := by decide +kernel
theorem dX12_way_65 : decode cX12_way 65 = .ok (.ireturn, 1) := by decide +kernel
theorem dX12_way_66 : decode cX12_way 66 = .ok (.aload_n 0, 1) := by decide +kernel
theorem dX12_way_67 : decode cX12_way 67 = .ok (.iload_n 3, 1) := by decide +kernel
theorem dX12_way_68 : decode cX12_way 68 = .ok (.invokevirtual 381, 3) := by decide +kernel
theorem dX12_way_71 : decode cX12_way 71 = .ok (.istore_n 3, 1) := by decide +kernel
theorem dX12_way_72 : decode cX12_way 72 = .ok (.iinc 4 1, 3) := by decide +kernel
theorem dX12_way_75 : decode cX12_way 75 = .ok (.goto (-31), 3) := by decide +kernel
theorem dX12_way_78 : decode cX12_way 78 = .ok (.iconst (-1), 1) := by decide +kernel
theorem dX12_way_79 : decode cX12_way 79 = .ok (.ireturn, 1) := by decide +kernel
theorem dX12_price_0 : decode cX12_price 0 = .ok (.aload_n 0, 1) := by decide +kernel
theorem dX12_price_1 : decode cX12_price 1 = .ok (.iconst 0, 1) := by decide +kernel
theorem dX12_price_2 : decode cX12_price 2 = .ok (.putfield 104, 3) := by decide +kernel
theorem dX12_price_5 : decode cX12_price 5 = .ok (.aload_n 0, 1) := by decide +kernel
theorem dX12_price_6 : decode cX12_price 6 = .ok (.iload_n 1, 1) := by decide +kernel
theorem dX12_price_7 : decode cX12_price 7 = .ok (.iconst 0, 1) := by decide +kernel
theorem dX12_price_8 : decode cX12_price 8 = .ok (.iconst 5, 1) := by decide +kernel
theorem dX12_price_9 : decode cX12_price 9 = .ok (.invokestatic 138, 3) := by decide +kernel
theorem dX12_price_12 : decode cX12_price 12 = .ok (.ifCond .eq 12, 3) := by decide +kernel
theorem dX12_price_15 : decode cX12_price 15 = .ok (.iload_n 2, 1) := by decide +kernel
theorem dX12_price_16 : decode cX12_price 16 = .ok (.iconst 0, 1) := by decide +kernel
theorem dX12_price_17 : decode cX12_price 17 = .ok (.iconst 5, 1) := by decide +kernel
theorem dX12_price_18 : decode cX12_price 18 = .ok (.invokestatic 138, 3) := by decide +kernel
theorem dX12_price_21 : decode cX12_price 21 = .ok (.ifCond .ne 7, 3) := by decide +kernel
theorem dX12_price_24 : decode cX12_price 24 = .ok (.iconst 1, 1) := by decide +kernel
theorem dX12_price_25 : decode cX12_price 25 = .ok (.goto 4, 3) := by decide +kernel
theorem dX12_price_28 : decode cX12_price 28 = .ok (.iconst 0, 1) := by decide +kernel
theorem dX12_price_29 : decode cX12_price 29 = .ok (.iconst 1, 1) := by decide +kernel
theorem dX12_price_30 : decode cX12_price 30 = .ok (.iconst 1, 1) := by decide +kernel
theorem dX12_price_31 : decode cX12_price 31 = .ok (.invokevirtual 183, 3) := by decide +kernel
theorem dX12_price_34 : decode cX12_price 34 = .ok (.ifCond .eq 5, 3) := by decide +kernel
theorem dX12_price_37 : decode cX12_price 37 = .ok (.iconst 0, 1) := by decide +kernel
theorem dX12_price_38 : decode cX12_price 38 = .ok (.ireturn, 1) := by decide +kernel
theorem dX12_price_39 : decode cX12_price 39 = .ok (.iconst 0, 1) := by decide +kernel
theorem dX12_price_40 : decode cX12_price 40 = .ok (.istore_n 3, 1) := by decide +kernel
theorem dX12_price_41 : decode cX12_price 41 = .ok (.iload_n 3, 1) := by decide +kernel
theorem dX12_price_42 : decode cX12_price 42 = .ok (.bipush 6, 2) := by decide +kernel
theorem dX12_price_44 : decode cX12_price 44 = .ok (.if_icmp .ge 27, 3) := by decide +kernel
theorem dX12_price_47 : decode cX12_price 47 = .ok (.aload_n 0, 1) := by decide +kernel
theorem dX12_price_48 : decode cX12_price 48 = .ok (.getfield 91, 3) := by decide +kernel
theorem dX12_price_51 : decode cX12_price 51 = .ok (.iload_n 3, 1) := by decide +kernel
theorem dX12_price_52 : decode cX12_price 52 = .ok (.iload_n 3, 1) := by decide +kernel
theorem dX12_price_53 : decode cX12_price 53 = .ok (.iload_n 1, 1) := by decide +kernel
theorem dX12_price_54 : decode cX12_price 54 = .ok (.if_icmp .ne 7, 3) := by decide +kernel
theorem dX12_price_57 : decode cX12_price 57 = .ok (.iconst 1, 1) := by decide +kernel
theorem dX12_price_58 : decode cX12_price 58 = .ok (.goto 6, 3) := by decide +kernel
theorem dX12_price_61 : decode cX12_price 61 = .ok (.sipush 1000, 3) := by decide +kernel
theorem dX12_price_64 : decode cX12_price 64 = .ok (.iastore, 1) := by decide +kernel
theorem dX12_price_65 : decode cX12_price 65 = .ok (.iinc 3 1, 3) := by decide +kernel
theorem dX12_price_68 : decode cX12_price 68 = .ok (.goto (-27), 3) := by decide +kernel
theorem dX12_price_71 : decode cX12_price 71 = .ok (.iconst 0, 1) := by decide +kernel
theorem dX12_price_72 : decode cX12_price 72 = .ok (.istore_n 3, 1) := by decide +kernel
theorem dX12_price_73 : decode cX12_price 73 = .ok (.iload_n 3, 1) := by decide +kernel
theorem dX12_price_74 : decode cX12_price 74 = .ok (.bipush 6, 2) := by decide +kernel
theorem dX12_price_76 : decode cX12_price 76 = .ok (.if_icmp .ge 84, 3) := by decide +kernel
theorem dX12_price_79 : decode cX12_price 79 = .ok (.iconst 0, 1) := by decide +kernel
theorem dX12_price_80 : decode cX12_price 80 = .ok (.istore 4, 2) := by decide +kernel
theorem dX12_price_82 : decode cX12_price 82 = .ok (.iload 4, 2) := by decide +kernel
theorem dX12_price_84 : decode cX12_price 84 = .ok (.aload_n 0, 1) := by decide +kernel
theorem dX12_price_85 : decode cX12_price 85 = .ok (.getfield 23, 3) := by decide +kernel
theorem dX12_price_88 : decode cX12_price 88 = .ok (.iconst 2, 1) := by decide +kernel
theorem dX12_price_89 : decode cX12_price 89 = .ok (.iaload, 1) := by decide +kernel
theorem dX12_price_90 : decode cX12_price 90 = .ok (.if_icmp .ge 64, 3) := by decide +kernel
theorem dX12_price_93 : decode cX12_price 93 = .ok (.aload_n 0, 1) := by decide +kernel
theorem dX12_price_94 : decode cX12_price 94 = .ok (.getfield 91, 3) := by decide +kernel
theorem dX12_price_97 : decode cX12_price 97 = .ok (.aload_n 0, 1) := by decide +kernel
theorem dX12_price_98 : decode cX12_price 98 = .ok (.getfield 43, 3) := by decide +kernel
theorem dX12_price_101 : decode cX12_price 101 = .ok (.iload 4, 2) := by decide +kernel
theorem dX12_price_103 : decode cX12_price 103 = .ok (.aaload, 1) := by decide +kernel
theorem dX12_price_104 : decode cX12_price 104 = .ok (.iconst 1, 1) := by decide +kernel
theorem dX12_price_105 : decode cX12_price 105 = .ok (.iaload, 1) := by decide +kernel
theorem dX12_price_106 : decode cX12_price 106 = .ok (.aload_n 0, 1) := by decide +kernel
theorem dX12_price_107 : decode cX12_price 107 = .ok (.getfield 91, 3) := by decide +kernel
theorem dX12_price_110 : decode cX12_price 110 = .ok (.aload_n 0, 1) := by decide +kernel
theorem dX12_price_111 : decode cX12_price 111 = .ok (.getfield 43, 3) := by decide +kernel
theorem dX12_price_114 : decode cX12_price 114 = .ok (.iload 4, 2) := by decide +kernel
theorem dX12_price_116 : decode cX12_price 116 = .ok (.aaload, 1) := by decide +kernel
theorem dX12_price_117 : decode cX12_price 117 = .ok (.iconst 1, 1) := by decide +kernel
theorem dX12_price_118 : decode cX12_price 118 = .ok (.iaload, 1) := by decide +kernel
theorem dX12_price_119 : decode cX12_price 119 = .ok (.iaload, 1) := by decide +kernel
theorem dX12_price_120 : decode cX12_price 120 = .ok (.aload_n 0, 1) := by decide +kernel
theorem dX12_price_121 : decode cX12_price 121 = .ok (.getfield 91, 3) := by decide +kernel
theorem dX12_price_124 : decode cX12_price 124 = .ok (.aload_n 0, 1) := by decide +kernel
theorem dX12_price_125 : decode cX12_price 125 = .ok (.getfield 43, 3) := by decide +kernel
theorem dX12_price_128 : decode cX12_price 128 = .ok (.iload 4, 2) := by decide +kernel
theorem dX12_price_130 : decode cX12_price 130 = .ok (.aaload, 1) := by decide +kernel
theorem dX12_price_131 : decode cX12_price 131 = .ok (.iconst 0, 1) := by decide +kernel
theorem dX12_price_132 : decode cX12_price 132 = .ok (.iaload, 1) := by decide +kernel
theorem dX12_price_133 : decode cX12_price 133 = .ok (.iaload, 1) := by decide +kernel
theorem dX12_price_134 : decode cX12_price 134 = .ok (.aload_n 0, 1) := by decide +kernel
theorem dX12_price_135 : decode cX12_price 135 = .ok (.getfield 43, 3) := by decide +kernel
theorem dX12_price_138 : decode cX12_price 138 = .ok (.iload 4, 2) := by decide +kernel
theorem dX12_price_140 : decode cX12_price 140 = .ok (.aaload, 1) := by decide +kernel
theorem dX12_price_141 : decode cX12_price 141 = .ok (.iconst 2, 1) := by decide +kernel
theorem dX12_price_142 : decode cX12_price 142 = .ok (.iaload, 1) := by decide +kernel
theorem dX12_price_143 : decode cX12_price 143 = .ok (.imul, 1) := by decide +kernel
theorem dX12_price_144 : decode cX12_price 144 = .ok (.invokestatic 247, 3) := by decide +kernel
theorem dX12_price_147 : decode cX12_price 147 = .ok (.iastore, 1) := by decide +kernel
theorem dX12_price_148 : decode cX12_price 148 = .ok (.iinc 4 1, 3) := by decide +kernel
theorem dX12_price_151 : decode cX12_price 151 = .ok (.goto (-69), 3) := by decide +kernel
theorem dX12_price_154 : decode cX12_price 154 = .ok (.iinc 3 1, 3) := by decide +kernel
theorem dX12_price_157 : decode cX12_price 157 = .ok (.goto (-84), 3) := by decide +kernel
theorem dX12_price_160 : decode cX12_price 160 = .ok (.aload_n 0, 1) := by decide +kernel
theorem dX12_price_161 : decode cX12_price 161 = .ok (.getfield 91, 3) := by decide +kernel
theorem dX12_price_164 : decode cX12_price 164 = .ok (.iload_n 2, 1) := by decide +kernel
theorem dX12_price_165 : decode cX12_price 165 = .ok (.iaload, 1) := by decide +kernel
theorem dX12_price_166 : decode cX12_price 166 = .ok (.sipush 999, 3) := by decide +kernel
theorem dX12_price_169 : decode cX12_price 169 = .ok (.if_icmp .le 7, 3) := by decide +kernel
theorem dX12_price_172 : decode cX12_price 172 = .ok (.iconst (-1), 1) := by decide +kernel
theorem dX12_price_173 : decode cX12_price 173 = .ok (.goto 9, 3) := by decide +kernel
theorem dX12_price_176 : decode cX12_price 176 = .ok (.aload_n 0, 1) := by decide +kernel
theorem dX12_price_177 : decode cX12_price 177 = .ok (.getfield 91, 3) := by decide +kernel
theorem dX12_price_180 : decode cX12_price 180 = .ok (.iload_n 2, 1) := by decide +kernel
theorem dX12_price_181 : decode cX12_price 181 = .ok (.iaload, 1) := by decide +kernel
theorem dX12_price_182 : decode cX12_price 182 = .ok (.ireturn, 1) := by decide +kernel
theorem dX12_hasBy_0 : decode cX12_hasBy 0 = .ok (.iload_n 0, 1) := by decide +kernel
theorem dX12_hasBy_1 : decode cX12_hasBy 1 = .ok (.iconst 1, 1) := by decide +kernel
theorem dX12_hasBy_2 : decode cX12_hasBy 2 = .ok (.if_icmp .ne 7, 3) := by decide +kernel
theorem dX12_hasBy_5 : decode cX12_hasBy 5 = .ok (.iconst 0, 1) := by decide +kernel
theorem dX12_hasBy_6 : decode cX12_hasBy 6 = .ok (.goto 15, 3) := by decide +kernel
theorem dX12_hasBy_9 : decode cX12_hasBy 9 = .ok (.iload_n 1, 1) := by decide +kernel
theorem dX12_hasBy_10 : decode cX12_hasBy 10 = .ok (.ifCond .ne 9, 3) := by decide +kernel
theorem dX12_hasBy_13 : decode cX12_hasBy 13 = .ok (.iload_n 2, 1) := by decide +kernel
theorem dX12_hasBy_14 : decode cX12_hasBy 14 = .ok (.iload_n 3, 1) := by decide +kernel
theorem dX12_hasBy_15 : decode cX12_hasBy 15 = .ok (.isub, 1) := by decide +kernel
theorem dX12_hasBy_16 : decode cX12_hasBy 16 = .ok (.goto 5, 3) := by decide +kernel
theorem dX12_hasBy_19 : decode cX12_hasBy 19 = .ok (.iload_n 3, 1) := by decide +kernel
theorem dX12_hasBy_20 : decode cX12_hasBy 20 = .ok (.ineg, 1) := by decide +kernel
theorem dX12_hasBy_21 : decode cX12_hasBy 21 = .ok (.ireturn, 1) := by decide +kernel
theorem dX12_isBest_0 : decode cX12_isBest 0 = .ok (.iload_n 0, 1) := by decide +kernel
theorem dX12_isBest_1 : decode cX12_isBest 1 = .ok (.iload_n 1, 1) := by decide +kernel
theorem dX12_isBest_2 : decode cX12_isBest 2 = .ok (.iload_n 2, 1) := by decide +kernel
theorem dX12_isBest_3 : decode cX12_isBest 3 = .ok (.iload_n 3, 1) := by decide +kernel
theorem dX12_isBest_4 : decode cX12_isBest 4 = .ok (.invokestatic 384, 3) := by decide +kernel
theorem dX12_isBest_7 : decode cX12_isBest 7 = .ok (.iconst 1, 1) := by decide +kernel
theorem dX12_isBest_8 : decode cX12_isBest 8 = .ok (.iload_n 0, 1) := by decide +kernel
theorem dX12_isBest_9 : decode cX12_isBest 9 = .ok (.isub, 1) := by decide +kernel
theorem dX12_isBest_10 : decode cX12_isBest 10 = .ok (.iload_n 1, 1) := by decide +kernel
theorem dX12_isBest_11 : decode cX12_isBest 11 = .ok (.iload_n 2, 1) := by decide +kernel
theorem dX12_isBest_12 : decode cX12_isBest 12 = .ok (.iload_n 3, 1) := by decide +kernel
theorem dX12_isBest_13 : decode cX12_isBest 13 = .ok (.invokestatic 384, 3) := by decide +kernel
theorem dX12_isBest_16 : decode cX12_isBest 16 = .ok (.if_icmp .lt 7, 3) := by decide +kernel
theorem dX12_isBest_19 : decode cX12_isBest 19 = .ok (.iconst 1, 1) := by decide +kernel
theorem dX12_isBest_20 : decode cX12_isBest 20 = .ok (.goto 4, 3) := by decide +kernel
theorem dX12_isBest_23 : decode cX12_isBest 23 = .ok (.iconst 0, 1) := by decide +kernel
theorem dX12_isBest_24 : decode cX12_isBest 24 = .ok (.ireturn, 1) := by decide +kernel
theorem dX12_owing_0 : decode cX12_owing 0 = .ok (.aload_n 0, 1) := by decide +kernel
theorem dX12_owing_1 : decode cX12_owing 1 = .ok (.iconst 0, 1) := by decide +kernel
theorem dX12_owing_2 : decode cX12_owing 2 = .ok (.putfield 104, 3) := by decide +kernel
theorem dX12_owing_5 : decode cX12_owing 5 = .ok (.aload_n 0, 1) := by decide +kernel
theorem dX12_owing_6 : decode cX12_owing 6 = .ok (.iload_n 1, 1) := by decide +kernel
theorem dX12_owing_7 : decode cX12_owing 7 = .ok (.iconst 0, 1) := by decide +kernel
theorem dX12_owing_8 : decode cX12_owing 8 = .ok (.bipush 99, 2) := by decide +kernel
theorem dX12_owing_10 : decode cX12_owing 10 = .ok (.invokestatic 138, 3) := by decide +kernel
theorem dX12_owing_13 : decode cX12_owing 13 = .ok (.ifCond .eq 22, 3) := by decide +kernel
theorem dX12_owing_16 : decode cX12_owing 16 = .ok (.iload_n 2, 1) := by decide +kernel
theorem dX12_owing_17 : decode cX12_owing 17 = .ok (.iconst 0, 1) := by decide +kernel
theorem dX12_owing_18 : decode cX12_owing 18 = .ok (.bipush 99, 2) := by decide +kernel
theorem dX12_owing_20 : decode cX12_owing 20 = .ok (.invokestatic 138, 3) := by decide +kernel
theorem dX12_owing_23 : decode cX12_owing 23 = .ok (.ifCond .eq 12, 3) := by decide +kernel
theorem dX12_owing_26 : decode cX12_owing 26 = .ok (.iload_n 3, 1) := by decide +kernel
theorem dX12_owing_27 : decode cX12_owing 27 = .ok (.iconst 0, 1) := by decide +kernel
theorem dX12_owing_28 : decode cX12_owing 28 = .ok (.iconst 2, 1) := by decide +kernel
theorem dX12_owing_29 : decode cX12_owing 29 = .ok (.invokestatic 138, 3) := by decide +kernel
theorem dX12_owing_32 : decode cX12_owing 32 = .ok (.ifCond .ne 7, 3) := by decide +kernel
theorem dX12_owing_35 : decode cX12_owing 35 = .ok (.iconst 1, 1) := by decide +kernel
theorem dX12_owing_36 : decode cX12_owing 36 = .ok (.goto 4, 3) := by decide +kernel
theorem dX12_owing_39 : decode cX12_owing 39 = .ok (.iconst 0, 1) := by decide +kernel
theorem dX12_owing_40 : decode cX12_owing 40 = .ok (.iconst 1, 1) := by decide +kernel
theorem dX12_owing_41 : decode cX12_owing 41 = .ok (.iconst 1, 1) := by decide +kernel
theorem dX12_owing_42 : decode cX12_owing 42 = .ok (.invokevirtual 183, 3) := by decide +kernel
theorem dX12_owing_45 : decode cX12_owing 45 = .ok (.ifCond .eq 5, 3) := by decide +kernel
theorem dX12_owing_48 : decode cX12_owing 48 = .ok (.iconst 0, 1) := by decide +kernel
theorem dX12_owing_49 : decode cX12_owing 49 = .ok (.ireturn, 1) := by decide +kernel
theorem dX12_owing_50 : decode cX12_owing 50 = .ok (.iconst 0, 1) := by decide +kernel
theorem dX12_owing_51 : decode cX12_owing 51 = .ok (.istore 4, 2) := by decide +kernel
theorem dX12_owing_53 : decode cX12_owing 53 = .ok (.iconst (-1), 1) := by decide +kernel
theorem dX12_owing_54 : decode cX12_owing 54 = .ok (.istore 5, 2) := by decide +kernel
theorem dX12_owing_56 : decode cX12_owing 56 = .ok (.iconst 0, 1) := by decide +kernel
theorem dX12_owing_57 : decode cX12_owing 57 = .ok (.istore 6, 2) := by decide +kernel
theorem dX12_owing_59 : decode cX12_owing 59 = .ok (.iconst 0, 1) := by decide +kernel
theorem dX12_owing_60 : decode cX12_owing 60 = .ok (.istore 7, 2) := by decide +kernel
theorem dX12_owing_62 : decode cX12_owing 62 = .ok (.iload 7, 2) := by decide +kernel
theorem dX12_owing_64 : decode cX12_owing 64 = .ok (.iconst 2, 1) := by decide +kernel
theorem dX12_owing_65 : decode cX12_owing 65 = .ok (.if_icmp .ge 105, 3) := by decide +kernel
theorem dX12_owing_68 : decode cX12_owing 68 = .ok (.iconst 0, 1) := by decide +kernel
theorem dX12_owing_69 : decode cX12_owing 69 = .ok (.istore 8, 2) := by decide +kernel
theorem dX12_owing_71 : decode cX12_owing 71 = .ok (.iload 8, 2) := by decide +kernel
theorem dX12_owing_73 : decode cX12_owing 73 = .ok (.iconst 2, 1) := by decide +kernel
theorem dX12_owing_74 : decode cX12_owing 74 = .ok (.if_icmp .ge 90, 3) := by decide +kernel
theorem dX12_owing_77 : decode cX12_owing 77 = .ok (.iload 7, 2) := by decide +kernel
theorem dX12_owing_79 : decode cX12_owing 79 = .ok (.iload 8, 2) := by decide +kernel
theorem dX12_owing_81 : decode cX12_owing 81 = .ok (.iload_n 1, 1) := by decide +kernel
theorem dX12_owing_82 : decode cX12_owing 82 = .ok (.iload_n 2, 1) := by decide +kernel
theorem dX12_owing_83 : decode cX12_owing 83 = .ok (.invokestatic 388, 3) := by decide +kernel
theorem dX12_owing_86 : decode cX12_owing 86 = .ok (.ifCond .eq 72, 3) := by decide +kernel
theorem dX12_owing_89 : decode cX12_owing 89 = .ok (.iload 8, 2) := by decide +kernel
theorem dX12_owing_91 : decode cX12_owing 91 = .ok (.iload 7, 2) := by decide +kernel
theorem dX12_owing_93 : decode cX12_owing 93 = .ok (.iload_n 1, 1) := by decide +kernel
theorem dX12_owing_94 : decode cX12_owing 94 = .ok (.iload_n 2, 1) := by decide +kernel
theorem dX12_owing_95 : decode cX12_owing 95 = .ok (.invokestatic 388, 3) := by decide +kernel
theorem dX12_owing_98 : decode cX12_owing 98 = .ok (.ifCond .ne 6, 3) := by decide +kernel
theorem dX12_owing_101 : decode cX12_owing 101 = .ok (.goto 57, 3) := by decide +kernel
theorem dX12_owing_104 : decode cX12_owing 104 = .ok (.iload 4, 2) := by decide +kernel
theorem dX12_owing_106 : decode cX12_owing 106 = .ok (.ifCond .ne 25, 3) := by decide +kernel
theorem dX12_owing_109 : decode cX12_owing 109 = .ok (.iload 7, 2) := by decide +kernel
theorem dX12_owing_111 : decode cX12_owing 111 = .ok (.iload 8, 2) := by decide +kernel
theorem dX12_owing_113 : decode cX12_owing 113 = .ok (.iload_n 1, 1) := by decide +kernel
theorem dX12_owing_114 : decode cX12_owing 114 = .ok (.iload_n 2, 1) := by decide +kernel
theorem dX12_owing_115 : decode cX12_owing 115 = .ok (.invokestatic 384, 3) := by decide +kernel
theorem dX12_owing_118 : decode cX12_owing 118 = .ok (.iload 8, 2) := by decide +kernel
theorem dX12_owing_120 : decode cX12_owing 120 = .ok (.iload 7, 2) := by decide +kernel
theorem dX12_owing_122 : decode cX12_owing 122 = .ok (.iload_n 1, 1) := by decide +kernel
theorem dX12_owing_123 : decode cX12_owing 123 = .ok (.iload_n 2, 1) := by decide +kernel
theorem dX12_owing_124 : decode cX12_owing 124 = .ok (.invokestatic 384, 3) := by decide +kernel
theorem dX12_owing_127 : decode cX12_owing 127 = .ok (.iadd, 1) := by decide +kernel
theorem dX12_owing_128 : decode cX12_owing 128 = .ok (.goto 5, 3) := by decide +kernel
theorem dX12_owing_131 : decode cX12_owing 131 = .ok (.iload 6, 2) := by decide +kernel
theorem dX12_owing_133 : decode cX12_owing 133 = .ok (.istore 6, 2) := by decide +kernel
theorem dX12_owing_135 : decode cX12_owing 135 = .ok (.iload 4, 2) := by decide +kernel
theorem dX12_owing_137 : decode cX12_owing 137 = .ok (.ifCond .ne 14, 3) := by decide +kernel
theorem dX12_owing_140 : decode cX12_owing 140 = .ok (.bipush 10, 2) := by decide +kernel
theorem dX12_owing_142 : decode cX12_owing 142 = .ok (.iload 7, 2) := by decide +kernel
theorem dX12_owing_144 : decode cX12_owing 144 = .ok (.imul, 1) := by decide +kernel
theorem dX12_owing_145 : decode cX12_owing 145 = .ok (.iload 8, 2) := by decide +kernel
theorem dX12_owing_147 : decode cX12_owing 147 = .ok (.iadd, 1) := by decide +kernel
theorem dX12_owing_148 : decode cX12_owing 148 = .ok (.goto 5, 3) := by decide +kernel
theorem dX12_owing_151 : decode cX12_owing 151 = .ok (.iload 5, 2) := by decide +kernel
theorem dX12_owing_153 : decode cX12_owing 153 = .ok (.istore 5, 2) := by decide +kernel
theorem dX12_owing_155 : decode cX12_owing 155 = .ok (.iinc 4 1, 3) := by decide +kernel
theorem dX12_owing_158 : decode cX12_owing 158 = .ok (.iinc 8 1, 3) := by decide +kernel
theorem dX12_owing_161 : decode cX12_owing 161 = .ok (.goto (-90), 3) := by decide +kernel
theorem dX12_owing_164 : decode cX12_owing 164 = .ok (.iinc 7 1, 3) := by decide +kernel
theorem dX12_owing_167 : decode cX12_owing 167 = .ok (.goto (-105), 3) := by decide +kernel
theorem dX12_owing_170 : decode cX12_owing 170 = .ok (.iload_n 3, 1) := by decide +kernel
theorem dX12_owing_171 : decode cX12_owing 171 = .ok (.ifCond .ne 8, 3) := by decide +kernel
theorem dX12_owing_174 : decode cX12_owing 174 = .ok (.iload 4, 2) := by decide +kernel
theorem dX12_owing_176 : decode cX12_owing 176 = .ok (.goto 15, 3) := by decide +kernel
theorem dX12_owing_179 : decode cX12_owing 179 = .ok (.iload_n 3, 1) := by decide +kernel
theorem dX12_owing_180 : decode cX12_owing 180 = .ok (.iconst 1, 1) := by decide +kernel
theorem dX12_owing_181 : decode cX12_owing 181 = .ok (.if_icmp .ne 8, 3) := by decide +kernel
theorem dX12_owing_184 : decode cX12_owing 184 = .ok (.iload 5, 2) := by decide +kernel
theorem dX12_owing_186 : decode cX12_owing 186 = .ok (.goto 5, 3) := by decide +kernel
theorem dX12_owing_189 : decode cX12_owing 189 = .ok (.iload 6, 2) := by decide +kernel
theorem dX12_owing_191 : decode cX12_owing 191 = .ok (.ireturn, 1) := by decide +kernel
theorem dX12_home_0 : decode cX12_home 0 = .ok (.aload_n 0, 1) := by decide +kernel
theorem dX12_home_1 : decode cX12_home 1 = .ok (.iconst 0, 1) := by decide +kernel
theorem dX12_home_2 : decode cX12_home 2 = .ok (.putfield 104, 3) := by decide +kernel
theorem dX12_home_5 : decode cX12_home 5 = .ok (.aload_n 0, 1) := by decide +kernel
theorem dX12_home_6 : decode cX12_home 6 = .ok (.iload_n 1, 1) := by decide +kernel
theorem dX12_home_7 : decode cX12_home 7 = .ok (.iconst 0, 1) := by decide +kernel
theorem dX12_home_8 : decode cX12_home 8 = .ok (.bipush 12, 2) := by decide +kernel
theorem dX12_home_10 : decode cX12_home 10 = .ok (.invokestatic 138, 3) := by decide +kernel
theorem dX12_home_13 : decode cX12_home 13 = .ok (.ifCond .eq 33, 3) := by decide +kernel
theorem dX12_home_16 : decode cX12_home 16 = .ok (.iload_n 2, 1) := by decide +kernel
theorem dX12_home_17 : decode cX12_home 17 = .ok (.iconst 0, 1) := by decide +kernel
theorem dX12_home_18 : decode cX12_home 18 = .ok (.bipush 12, 2) := by decide +kernel
theorem dX12_home_20 : decode cX12_home 20 = .ok (.invokestatic 138, 3) := by decide +kernel
theorem dX12_home_23 : decode cX12_home 23 = .ok (.ifCond .eq 23, 3) := by decide +kernel
theorem dX12_home_26 : decode cX12_home 26 = .ok (.iload_n 3, 1) := by decide +kernel
theorem dX12_home_27 : decode cX12_home 27 = .ok (.iconst 0, 1) := by decide +kernel
theorem dX12_home_28 : decode cX12_home 28 = .ok (.bipush 16, 2) := by decide +kernel
theorem dX12_home_30 : decode cX12_home 30 = .ok (.invokestatic 138, 3) := by decide +kernel
theorem dX12_home_33 : decode cX12_home 33 = .ok (.ifCond .eq 13, 3) := by decide +kernel
theorem dX12_home_36 : decode cX12_home 36 = .ok (.iload 4, 2) := by decide +kernel
theorem dX12_home_38 : decode cX12_home 38 = .ok (.iconst 0, 1) := by decide +kernel
theorem dX12_home_39 : decode cX12_home 39 = .ok (.iconst 1, 1) := by decide +kernel
theorem dX12_home_40 : decode cX12_home 40 = .ok (.invokestatic 138, 3) := by decide +kernel
theorem dX12_home_43 : decode cX12_home 43 = .ok (.ifCond .ne 7, 3) := by decide +kernel
theorem dX12_home_46 : decode cX12_home 46 = .ok (.iconst 1, 1) := by decide +kernel
theorem dX12_home_47 : decode cX12_home 47 = .ok (.goto 4, 3) := by decide +kernel
theorem dX12_home_50 : decode cX12_home 50 = .ok (.iconst 0, 1) := by decide +kernel
theorem dX12_home_51 : decode cX12_home 51 = .ok (.iconst 1, 1) := by decide +kernel
theorem dX12_home_52 : decode cX12_home 52 = .ok (.iconst 1, 1) := by decide +kernel
theorem dX12_home_53 : decode cX12_home 53 = .ok (.invokevirtual 183, 3) := by decide +kernel
theorem dX12_home_56 : decode cX12_home 56 = .ok (.ifCond .eq 5, 3) := by decide +kernel
theorem dX12_home_59 : decode cX12_home 59 = .ok (.lconst 0, 1) := by decide +kernel
theorem dX12_home_60 : decode cX12_home 60 = .ok (.lreturn, 1) := by decide +kernel
theorem dX12_home_61 : decode cX12_home 61 = .ok (.iconst 0, 1) := by decide +kernel
theorem dX12_home_62 : decode cX12_home 62 = .ok (.istore 5, 2) := by decide +kernel
theorem dX12_home_64 : decode cX12_home 64 = .ok (.iload 5, 2) := by decide +kernel
theorem dX12_home_66 : decode cX12_home 66 = .ok (.bipush 14, 2) := by decide +kernel
theorem dX12_home_68 : decode cX12_home 68 = .ok (.if_icmp .ge 26, 3) := by decide +kernel
theorem dX12_home_71 : decode cX12_home 71 = .ok (.aload_n 0, 1) := by decide +kernel
theorem dX12_home_72 : decode cX12_home 72 = .ok (.getfield 94, 3) := by decide +kernel
theorem dX12_home_75 : decode cX12_home 75 = .ok (.iload 5, 2) := by decide +kernel
theorem dX12_home_77 : decode cX12_home 77 = .ok (.iload 5, 2) := by decide +kernel
theorem dX12_home_79 : decode cX12_home 79 = .ok (.ifCond .ne 7, 3) := by decide +kernel
theorem dX12_home_82 : decode cX12_home 82 = .ok (.lconst 1, 1) := by decide +kernel
theorem dX12_home_83 : decode cX12_home 83 = .ok (.goto 4, 3) := by decide +kernel
theorem dX12_home_86 : decode cX12_home 86 = .ok (.lconst 0, 1) := by decide +kernel
theorem dX12_home_87 : decode cX12_home 87 = .ok (.lastore, 1) := by decide +kernel
theorem dX12_home_88 : decode cX12_home 88 = .ok (.iinc 5 1, 3) := by decide +kernel
theorem dX12_home_91 : decode cX12_home 91 = .ok (.goto (-27), 3) := by decide +kernel
theorem dX12_home_94 : decode cX12_home 94 = .ok (.iconst 0, 1) := by decide +kernel
theorem dX12_home_95 : decode cX12_home 95 = .ok (.istore 5, 2) := by decide +kernel
theorem dX12_home_97 : decode cX12_home 97 = .ok (.iload 5, 2) := by decide +kernel
theorem dX12_home_99 : decode cX12_home 99 = .ok (.iload_n 1, 1) := by decide +kernel
theorem dX12_home_100 : decode cX12_home 100 = .ok (.if_icmp .ge 66, 3) := by decide +kernel
theorem dX12_home_103 : decode cX12_home 103 = .ok (.bipush 13, 2) := by decide +kernel
theorem dX12_home_105 : decode cX12_home 105 = .ok (.istore 6, 2) := by decide +kernel
theorem dX12_home_107 : decode cX12_home 107 = .ok (.iload 6, 2) := by decide +kernel
theorem dX12_home_109 : decode cX12_home 109 = .ok (.ifCond .lt 51, 3) := by decide +kernel
theorem dX12_home_112 : decode cX12_home 112 = .ok (.aload_n 0, 1) := by decide +kernel
theorem dX12_home_113 : decode cX12_home 113 = .ok (.getfield 94, 3) := by decide +kernel
theorem dX12_home_116 : decode cX12_home 116 = .ok (.iload 6, 2) := by decide +kernel
theorem dX12_home_118 : decode cX12_home 118 = .ok (.aload_n 0, 1) := by decide +kernel
theorem dX12_home_119 : decode cX12_home 119 = .ok (.getfield 94, 3) := by decide +kernel
theorem dX12_home_122 : decode cX12_home 122 = .ok (.iload 6, 2) := by decide +kernel
theorem dX12_home_124 : decode cX12_home 124 = .ok (.laload, 1) := by decide +kernel
theorem dX12_home_125 : decode cX12_home 125 = .ok (.iload_n 3, 1) := by decide +kernel
theorem dX12_home_126 : decode cX12_home 126 = .ok (.i2l, 1) := by decide +kernel
theorem dX12_home_127 : decode cX12_home 127 = .ok (.lmul, 1) := by decide +kernel
theorem dX12_home_128 : decode cX12_home 128 = .ok (.iload 6, 2) := by decide +kernel
theorem dX12_home_130 : decode cX12_home 130 = .ok (.ifCond .le 21, 3) := by decide +kernel
theorem dX12_home_133 : decode cX12_home 133 = .ok (.aload_n 0, 1) := by decide +kernel
theorem dX12_home_134 : decode cX12_home 134 = .ok (.getfield 94, 3) := by decide +kernel
theorem dX12_home_137 : decode cX12_home 137 = .ok (.iload 6, 2) := by decide +kernel
theorem dX12_home_139 : decode cX12_home 139 = .ok (.iconst 1, 1) := by decide +kernel
theorem dX12_home_140 : decode cX12_home 140 = .ok (.isub, 1) := by decide +kernel
theorem dX12_home_141 : decode cX12_home 141 = .ok (.laload, 1) := by decide +kernel
theorem dX12_home_142 : decode cX12_home 142 = .ok (.bipush 16, 2) := by decide +kernel
theorem dX12_home_144 : decode cX12_home 144 = .ok (.iload_n 3, 1) := by decide +kernel
theorem dX12_home_145 : decode cX12_home 145 = .ok (.isub, 1) := by decide +kernel
theorem dX12_home_146 : decode cX12_home 146 = .ok (.i2l, 1) := by decide +kernel
theorem dX12_home_147 : decode cX12_home 147 = .ok (.lmul, 1) := by decide +kernel
theorem dX12_home_148 : decode cX12_home 148 = .ok (.goto 4, 3) := by decide +kernel
theorem dX12_home_151 : decode cX12_home 151 = .ok (.lconst 0, 1) := by decide +kernel
theorem dX12_home_152 : decode cX12_home 152 = .ok (.ladd, 1) := by decide +kernel
theorem dX12_home_153 : decode cX12_home 153 = .ok (.lastore, 1) := by decide +kernel
theorem dX12_home_154 : decode cX12_home 154 = .ok (.iinc 6 (-1), 3) := by decide +kernel
theorem dX12_home_157 : decode cX12_home 157 = .ok (.goto (-50), 3) := by decide +kernel
theorem dX12_home_160 : decode cX12_home 160 = .ok (.iinc 5 1, 3) := by decide +kernel
theorem dX12_home_163 : decode cX12_home 163 = .ok (.goto (-66), 3) := by decide +kernel
theorem dX12_home_166 : decode cX12_home 166 = .ok (.lconst 0, 1) := by decide +kernel
theorem dX12_home_167 : decode cX12_home 167 = .ok (.lstore 5, 2) := by decide +kernel
theorem dX12_home_169 : decode cX12_home 169 = .ok (.lconst 1, 1) := by decide +kernel
theorem dX12_home_170 : decode cX12_home 170 = .ok (.iconst 4, 1) := by decide +kernel
theorem dX12_home_171 : decode cX12_home 171 = .ok (.iload_n 1, 1) := by decide +kernel
theorem dX12_home_172 : decode cX12_home 172 = .ok (.imul, 1) := by decide +kernel
theorem dX12_home_173 : decode cX12_home 173 = .ok (.lshl, 1) := by decide +kernel
theorem dX12_home_174 : decode cX12_home 174 = .ok (.lstore 7, 2) := by decide +kernel
theorem dX12_home_176 : decode cX12_home 176 = .ok (.iconst 0, 1) := by decide +kernel
theorem dX12_home_177 : decode cX12_home 177 = .ok (.istore 9, 2) := by decide +kernel
theorem dX12_home_179 : decode cX12_home 179 = .ok (.iload 9, 2) := by decide +kernel
theorem dX12_home_181 : decode cX12_home 181 = .ok (.iload_n 2, 1) := by decide +kernel
theorem dX12_home_182 : decode cX12_home 182 = .ok (.if_icmp .gt 21, 3) := by decide +kernel
theorem dX12_home_185 : decode cX12_home 185 = .ok (.lload 5, 2) := by decide +kernel
theorem dX12_home_187 : decode cX12_home 187 = .ok (.aload_n 0, 1) := by decide +kernel
theorem dX12_home_188 : decode cX12_home 188 = .ok (.getfield 94, 3) := by decide +kernel
theorem dX12_home_191 : decode cX12_home 191 = .ok (.iload 9, 2) := by decide +kernel
theorem dX12_home_193 : decode cX12_home 193 = .ok (.laload, 1) := by decide +kernel
theorem dX12_home_194 : decode cX12_home 194 = .ok (.ladd, 1) := by decide +kernel
theorem dX12_home_195 : decode cX12_home 195 = .ok (.lstore 5, 2) := by decide +kernel
theorem dX12_home_197 : decode cX12_home 197 = .ok (.iinc 9 1, 3) := by decide +kernel
theorem dX12_home_200 : decode cX12_home 200 = .ok (.goto (-21), 3) := by decide +kernel
theorem dX12_home_203 : decode cX12_home 203 = .ok (.lload 7, 2) := by decide +kernel
theorem dX12_home_205 : decode cX12_home 205 = .ok (.lstore 9, 2) := by decide +kernel
theorem dX12_home_207 : decode cX12_home 207 = .ok (.lload 5, 2) := by decide +kernel
theorem dX12_home_209 : decode cX12_home 209 = .ok (.lstore 11, 2) := by decide +kernel
theorem dX12_home_211 : decode cX12_home 211 = .ok (.lload 11, 2) := by decide +kernel
theorem dX12_home_213 : decode cX12_home 213 = .ok (.lconst 0, 1) := by decide +kernel
