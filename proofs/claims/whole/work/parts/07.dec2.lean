theorem dX8_sum_50 : decode cX8_sum 50 = .ok (.ireturn, 1) := by decide +kernel
theorem dX8_sum_51 : decode cX8_sum 51 = .ok (.aload_n 0, 1) := by decide +kernel
theorem dX8_sum_52 : decode cX8_sum 52 = .ok (.iconst 3, 1) := by decide +kernel
theorem dX8_sum_53 : decode cX8_sum 53 = .ok (.iload_n 1, 1) := by decide +kernel
theorem dX8_sum_54 : decode cX8_sum 54 = .ok (.invokevirtual 86, 3) := by decide +kernel
theorem dX8_sum_57 : decode cX8_sum 57 = .ok (.goto (-48), 3) := by decide +kernel
theorem dX8_sum_60 : decode cX8_sum 60 = .ok (.iconst 1, 1) := by decide +kernel
theorem dX8_sum_61 : decode cX8_sum 61 = .ok (.ireturn, 1) := by decide +kernel
theorem dX8_product_0 : decode cX8_product 0 = .ok (.aload_n 0, 1) := by decide +kernel
theorem dX8_product_1 : decode cX8_product 1 = .ok (.invokevirtual 99, 3) := by decide +kernel
theorem dX8_product_4 : decode cX8_product 4 = .ok (.ifCond .ne 5, 3) := by decide +kernel
theorem dX8_product_7 : decode cX8_product 7 = .ok (.iconst 0, 1) := by decide +kernel
theorem dX8_product_8 : decode cX8_product 8 = .ok (.ireturn, 1) := by decide +kernel
theorem dX8_product_9 : decode cX8_product 9 = .ok (.aload_n 0, 1) := by decide +kernel
theorem dX8_product_10 : decode cX8_product 10 = .ok (.invokevirtual 82, 3) := by decide +kernel
theorem dX8_product_13 : decode cX8_product 13 = .ok (.bipush 42, 2) := by decide +kernel
theorem dX8_product_15 : decode cX8_product 15 = .ok (.if_icmp .eq 21, 3) := by decide +kernel
theorem dX8_product_18 : decode cX8_product 18 = .ok (.aload_n 0, 1) := by decide +kernel
theorem dX8_product_19 : decode cX8_product 19 = .ok (.invokevirtual 82, 3) := by decide +kernel
theorem dX8_product_22 : decode cX8_product 22 = .ok (.bipush 47, 2) := by decide +kernel
theorem dX8_product_24 : decode cX8_product 24 = .ok (.if_icmp .eq 12, 3) := by decide +kernel
theorem dX8_product_27 : decode cX8_product 27 = .ok (.aload_n 0, 1) := by decide +kernel
theorem dX8_product_28 : decode cX8_product 28 = .ok (.invokevirtual 82, 3) := by decide +kernel
theorem dX8_product_31 : decode cX8_product 31 = .ok (.bipush 37, 2) := by decide +kernel
theorem dX8_product_33 : decode cX8_product 33 = .ok (.if_icmp .ne 36, 3) := by decide +kernel
theorem dX8_product_36 : decode cX8_product 36 = .ok (.aload_n 0, 1) := by decide +kernel
theorem dX8_product_37 : decode cX8_product 37 = .ok (.invokevirtual 82, 3) := by decide +kernel
theorem dX8_product_40 : decode cX8_product 40 = .ok (.istore_n 1, 1) := by decide +kernel
theorem dX8_product_41 : decode cX8_product 41 = .ok (.aload_n 0, 1) := by decide +kernel
theorem dX8_product_42 : decode cX8_product 42 = .ok (.dup, 1) := by decide +kernel
theorem dX8_product_43 : decode cX8_product 43 = .ok (.getfield 68, 3) := by decide +kernel
theorem dX8_product_46 : decode cX8_product 46 = .ok (.iconst 1, 1) := by decide +kernel
theorem dX8_product_47 : decode cX8_product 47 = .ok (.iadd, 1) := by decide +kernel
theorem dX8_product_48 : decode cX8_product 48 = .ok (.putfield 68, 3) := by decide +kernel
theorem dX8_product_51 : decode cX8_product 51 = .ok (.aload_n 0, 1) := by decide +kernel
theorem dX8_product_52 : decode cX8_product 52 = .ok (.invokevirtual 99, 3) := by decide +kernel
theorem dX8_product_55 : decode cX8_product 55 = .ok (.ifCond .ne 5, 3) := by decide +kernel
theorem dX8_product_58 : decode cX8_product 58 = .ok (.iconst 0, 1) := by decide +kernel
theorem dX8_product_59 : decode cX8_product 59 = .ok (.ireturn, 1) := by decide +kernel
theorem dX8_product_60 : decode cX8_product 60 = .ok (.aload_n 0, 1) := by decide +kernel
theorem dX8_product_61 : decode cX8_product 61 = .ok (.iconst 3, 1) := by decide +kernel
theorem dX8_product_62 : decode cX8_product 62 = .ok (.iload_n 1, 1) := by decide +kernel
theorem dX8_product_63 : decode cX8_product 63 = .ok (.invokevirtual 86, 3) := by decide +kernel
theorem dX8_product_66 : decode cX8_product 66 = .ok (.goto (-57), 3) := by decide +kernel
theorem dX8_product_69 : decode cX8_product 69 = .ok (.iconst 1, 1) := by decide +kernel
theorem dX8_product_70 : decode cX8_product 70 = .ok (.ireturn, 1) := by decide +kernel
theorem dX8_opens_0 : decode cX8_opens 0 = .ok (.aload_n 0, 1) := by decide +kernel
theorem dX8_opens_1 : decode cX8_opens 1 = .ok (.getfield 102, 3) := by decide +kernel
theorem dX8_opens_4 : decode cX8_opens 4 = .ok (.iconst 5, 1) := by decide +kernel
theorem dX8_opens_5 : decode cX8_opens 5 = .ok (.if_icmp .ne 5, 3) := by decide +kernel
theorem dX8_opens_8 : decode cX8_opens 8 = .ok (.iconst 0, 1) := by decide +kernel
theorem dX8_opens_9 : decode cX8_opens 9 = .ok (.ireturn, 1) := by decide +kernel
theorem dX8_opens_10 : decode cX8_opens 10 = .ok (.aload_n 0, 1) := by decide +kernel
theorem dX8_opens_11 : decode cX8_opens 11 = .ok (.dup, 1) := by decide +kernel
theorem dX8_opens_12 : decode cX8_opens 12 = .ok (.getfield 102, 3) := by decide +kernel
theorem dX8_opens_15 : decode cX8_opens 15 = .ok (.iconst 1, 1) := by decide +kernel
theorem dX8_opens_16 : decode cX8_opens 16 = .ok (.iadd, 1) := by decide +kernel
theorem dX8_opens_17 : decode cX8_opens 17 = .ok (.putfield 102, 3) := by decide +kernel
theorem dX8_opens_20 : decode cX8_opens 20 = .ok (.aload_n 0, 1) := by decide +kernel
theorem dX8_opens_21 : decode cX8_opens 21 = .ok (.dup, 1) := by decide +kernel
theorem dX8_opens_22 : decode cX8_opens 22 = .ok (.getfield 68, 3) := by decide +kernel
theorem dX8_opens_25 : decode cX8_opens 25 = .ok (.iconst 1, 1) := by decide +kernel
theorem dX8_opens_26 : decode cX8_opens 26 = .ok (.iadd, 1) := by decide +kernel
theorem dX8_opens_27 : decode cX8_opens 27 = .ok (.putfield 68, 3) := by decide +kernel
theorem dX8_opens_30 : decode cX8_opens 30 = .ok (.iconst 1, 1) := by decide +kernel
theorem dX8_opens_31 : decode cX8_opens 31 = .ok (.ireturn, 1) := by decide +kernel
theorem dX8_one_0 : decode cX8_one 0 = .ok (.aload_n 0, 1) := by decide +kernel
theorem dX8_one_1 : decode cX8_one 1 = .ok (.invokevirtual 82, 3) := by decide +kernel
theorem dX8_one_4 : decode cX8_one 4 = .ok (.istore_n 1, 1) := by decide +kernel
theorem dX8_one_5 : decode cX8_one 5 = .ok (.aload_n 0, 1) := by decide +kernel
theorem dX8_one_6 : decode cX8_one 6 = .ok (.iload_n 1, 1) := by decide +kernel
theorem dX8_one_7 : decode cX8_one 7 = .ok (.invokevirtual 105, 3) := by decide +kernel
theorem dX8_one_10 : decode cX8_one 10 = .ok (.ifCond .eq 21, 3) := by decide +kernel
theorem dX8_one_13 : decode cX8_one 13 = .ok (.aload_n 0, 1) := by decide +kernel
theorem dX8_one_14 : decode cX8_one 14 = .ok (.dup, 1) := by decide +kernel
theorem dX8_one_15 : decode cX8_one 15 = .ok (.getfield 68, 3) := by decide +kernel
theorem dX8_one_18 : decode cX8_one 18 = .ok (.iconst 1, 1) := by decide +kernel
theorem dX8_one_19 : decode cX8_one 19 = .ok (.iadd, 1) := by decide +kernel
theorem dX8_one_20 : decode cX8_one 20 = .ok (.putfield 68, 3) := by decide +kernel
theorem dX8_one_23 : decode cX8_one 23 = .ok (.aload_n 0, 1) := by decide +kernel
theorem dX8_one_24 : decode cX8_one 24 = .ok (.iconst 1, 1) := by decide +kernel
theorem dX8_one_25 : decode cX8_one 25 = .ok (.iload_n 1, 1) := by decide +kernel
theorem dX8_one_26 : decode cX8_one 26 = .ok (.invokevirtual 86, 3) := by decide +kernel
theorem dX8_one_29 : decode cX8_one 29 = .ok (.iconst 1, 1) := by decide +kernel
theorem dX8_one_30 : decode cX8_one 30 = .ok (.ireturn, 1) := by decide +kernel
theorem dX8_one_31 : decode cX8_one 31 = .ok (.iload_n 1, 1) := by decide +kernel
theorem dX8_one_32 : decode cX8_one 32 = .ok (.bipush 48, 2) := by decide +kernel
theorem dX8_one_34 : decode cX8_one 34 = .ok (.bipush 57, 2) := by decide +kernel
theorem dX8_one_36 : decode cX8_one 36 = .ok (.invokestatic 50, 3) := by decide +kernel
theorem dX8_one_39 : decode cX8_one 39 = .ok (.ifCond .eq 63, 3) := by decide +kernel
theorem dX8_one_42 : decode cX8_one 42 = .ok (.iconst 0, 1) := by decide +kernel
theorem dX8_one_43 : decode cX8_one 43 = .ok (.istore_n 2, 1) := by decide +kernel
theorem dX8_one_44 : decode cX8_one 44 = .ok (.iconst 0, 1) := by decide +kernel
theorem dX8_one_45 : decode cX8_one 45 = .ok (.istore_n 3, 1) := by decide +kernel
theorem dX8_one_46 : decode cX8_one 46 = .ok (.iload_n 3, 1) := by decide +kernel
theorem dX8_one_47 : decode cX8_one 47 = .ok (.iconst 4, 1) := by decide +kernel
theorem dX8_one_48 : decode cX8_one 48 = .ok (.if_icmp .ge 46, 3) := by decide +kernel
theorem dX8_one_51 : decode cX8_one 51 = .ok (.aload_n 0, 1) := by decide +kernel
theorem dX8_one_52 : decode cX8_one 52 = .ok (.invokevirtual 82, 3) := by decide +kernel
theorem dX8_one_55 : decode cX8_one 55 = .ok (.bipush 48, 2) := by decide +kernel
theorem dX8_one_57 : decode cX8_one 57 = .ok (.bipush 57, 2) := by decide +kernel
theorem dX8_one_59 : decode cX8_one 59 = .ok (.invokestatic 50, 3) := by decide +kernel
theorem dX8_one_62 : decode cX8_one 62 = .ok (.ifCond .eq 32, 3) := by decide +kernel
theorem dX8_one_65 : decode cX8_one 65 = .ok (.bipush 10, 2) := by decide +kernel
theorem dX8_one_67 : decode cX8_one 67 = .ok (.iload_n 2, 1) := by decide +kernel
theorem dX8_one_68 : decode cX8_one 68 = .ok (.imul, 1) := by decide +kernel
theorem dX8_one_69 : decode cX8_one 69 = .ok (.aload_n 0, 1) := by decide +kernel
theorem dX8_one_70 : decode cX8_one 70 = .ok (.invokevirtual 82, 3) := by decide +kernel
theorem dX8_one_73 : decode cX8_one 73 = .ok (.iadd, 1) := by decide +kernel
theorem dX8_one_74 : decode cX8_one 74 = .ok (.bipush 48, 2) := by decide +kernel
theorem dX8_one_76 : decode cX8_one 76 = .ok (.isub, 1) := by decide +kernel
theorem dX8_one_77 : decode cX8_one 77 = .ok (.istore_n 2, 1) := by decide +kernel
theorem dX8_one_78 : decode cX8_one 78 = .ok (.aload_n 0, 1) := by decide +kernel
theorem dX8_one_79 : decode cX8_one 79 = .ok (.dup, 1) := by decide +kernel
theorem dX8_one_80 : decode cX8_one 80 = .ok (.getfield 68, 3) := by decide +kernel
theorem dX8_one_83 : decode cX8_one 83 = .ok (.iconst 1, 1) := by decide +kernel
theorem dX8_one_84 : decode cX8_one 84 = .ok (.iadd, 1) := by decide +kernel
theorem dX8_one_85 : decode cX8_one 85 = .ok (.putfield 68, 3) := by decide +kernel
theorem dX8_one_88 : decode cX8_one 88 = .ok (.iinc 3 1, 3) := by decide +kernel
theorem dX8_one_91 : decode cX8_one 91 = .ok (.goto (-45), 3) := by decide +kernel
theorem dX8_one_94 : decode cX8_one 94 = .ok (.aload_n 0, 1) := by decide +kernel
theorem dX8_one_95 : decode cX8_one 95 = .ok (.iconst 0, 1) := by decide +kernel
theorem dX8_one_96 : decode cX8_one 96 = .ok (.iload_n 2, 1) := by decide +kernel
theorem dX8_one_97 : decode cX8_one 97 = .ok (.invokevirtual 86, 3) := by decide +kernel
theorem dX8_one_100 : decode cX8_one 100 = .ok (.iconst 1, 1) := by decide +kernel
theorem dX8_one_101 : decode cX8_one 101 = .ok (.ireturn, 1) := by decide +kernel
theorem dX8_one_102 : decode cX8_one 102 = .ok (.iload_n 1, 1) := by decide +kernel
theorem dX8_one_103 : decode cX8_one 103 = .ok (.bipush 33, 2) := by decide +kernel
theorem dX8_one_105 : decode cX8_one 105 = .ok (.if_icmp .ne 37, 3) := by decide +kernel
theorem dX8_one_108 : decode cX8_one 108 = .ok (.aload_n 0, 1) := by decide +kernel
theorem dX8_one_109 : decode cX8_one 109 = .ok (.invokevirtual 108, 3) := by decide +kernel
theorem dX8_one_112 : decode cX8_one 112 = .ok (.ifCond .eq 10, 3) := by decide +kernel
theorem dX8_one_115 : decode cX8_one 115 = .ok (.aload_n 0, 1) := by decide +kernel
theorem dX8_one_116 : decode cX8_one 116 = .ok (.invokevirtual 99, 3) := by decide +kernel
theorem dX8_one_119 : decode cX8_one 119 = .ok (.ifCond .ne 5, 3) := by decide +kernel
theorem dX8_one_122 : decode cX8_one 122 = .ok (.iconst 0, 1) := by decide +kernel
theorem dX8_one_123 : decode cX8_one 123 = .ok (.ireturn, 1) := by decide +kernel
theorem dX8_one_124 : decode cX8_one 124 = .ok (.aload_n 0, 1) := by decide +kernel
theorem dX8_one_125 : decode cX8_one 125 = .ok (.dup, 1) := by decide +kernel
theorem dX8_one_126 : decode cX8_one 126 = .ok (.getfield 102, 3) := by decide +kernel
theorem dX8_one_129 : decode cX8_one 129 = .ok (.iconst 1, 1) := by decide +kernel
theorem dX8_one_130 : decode cX8_one 130 = .ok (.isub, 1) := by decide +kernel
theorem dX8_one_131 : decode cX8_one 131 = .ok (.putfield 102, 3) := by decide +kernel
theorem dX8_one_134 : decode cX8_one 134 = .ok (.aload_n 0, 1) := by decide +kernel
theorem dX8_one_135 : decode cX8_one 135 = .ok (.iconst 2, 1) := by decide +kernel
theorem dX8_one_136 : decode cX8_one 136 = .ok (.iconst 0, 1) := by decide +kernel
theorem dX8_one_137 : decode cX8_one 137 = .ok (.invokevirtual 86, 3) := by decide +kernel
theorem dX8_one_140 : decode cX8_one 140 = .ok (.iconst 1, 1) := by decide +kernel
theorem dX8_one_141 : decode cX8_one 141 = .ok (.ireturn, 1) := by decide +kernel
theorem dX8_one_142 : decode cX8_one 142 = .ok (.iload_n 1, 1) := by decide +kernel
theorem dX8_one_143 : decode cX8_one 143 = .ok (.bipush 40, 2) := by decide +kernel
theorem dX8_one_145 : decode cX8_one 145 = .ok (.if_icmp .ne 26, 3) := by decide +kernel
theorem dX8_one_148 : decode cX8_one 148 = .ok (.aload_n 0, 1) := by decide +kernel
theorem dX8_one_149 : decode cX8_one 149 = .ok (.invokevirtual 108, 3) := by decide +kernel
theorem dX8_one_152 : decode cX8_one 152 = .ok (.ifCond .eq 19, 3) := by decide +kernel
theorem dX8_one_155 : decode cX8_one 155 = .ok (.aload_n 0, 1) := by decide +kernel
theorem dX8_one_156 : decode cX8_one 156 = .ok (.invokevirtual 111, 3) := by decide +kernel
theorem dX8_one_159 : decode cX8_one 159 = .ok (.ifCond .eq 12, 3) := by decide +kernel
theorem dX8_one_162 : decode cX8_one 162 = .ok (.aload_n 0, 1) := by decide +kernel
theorem dX8_one_163 : decode cX8_one 163 = .ok (.invokevirtual 82, 3) := by decide +kernel
theorem dX8_one_166 : decode cX8_one 166 = .ok (.bipush 41, 2) := by decide +kernel
theorem dX8_one_168 : decode cX8_one 168 = .ok (.if_icmp .eq 5, 3) := by decide +kernel
theorem dX8_one_171 : decode cX8_one 171 = .ok (.iconst 0, 1) := by decide +kernel
theorem dX8_one_172 : decode cX8_one 172 = .ok (.ireturn, 1) := by decide +kernel
theorem dX8_one_173 : decode cX8_one 173 = .ok (.aload_n 0, 1) := by decide +kernel
theorem dX8_one_174 : decode cX8_one 174 = .ok (.dup, 1) := by decide +kernel
theorem dX8_one_175 : decode cX8_one 175 = .ok (.getfield 68, 3) := by decide +kernel
theorem dX8_one_178 : decode cX8_one 178 = .ok (.iconst 1, 1) := by decide +kernel
theorem dX8_one_179 : decode cX8_one 179 = .ok (.iadd, 1) := by decide +kernel
theorem dX8_one_180 : decode cX8_one 180 = .ok (.putfield 68, 3) := by decide +kernel
theorem dX8_one_183 : decode cX8_one 183 = .ok (.aload_n 0, 1) := by decide +kernel
theorem dX8_one_184 : decode cX8_one 184 = .ok (.dup, 1) := by decide +kernel
theorem dX8_one_185 : decode cX8_one 185 = .ok (.getfield 102, 3) := by decide +kernel
theorem dX8_one_188 : decode cX8_one 188 = .ok (.iconst 1, 1) := by decide +kernel
theorem dX8_one_189 : decode cX8_one 189 = .ok (.isub, 1) := by decide +kernel
theorem dX8_one_190 : decode cX8_one 190 = .ok (.putfield 102, 3) := by decide +kernel
theorem dX8_one_193 : decode cX8_one 193 = .ok (.iconst 1, 1) := by decide +kernel
theorem dX8_one_194 : decode cX8_one 194 = .ok (.ireturn, 1) := by decide +kernel
theorem dX8_hasText_0 : decode cX8_hasText 0 = .ok (.aload_n 0, 1) := by decide +kernel
theorem dX8_hasText_1 : decode cX8_hasText 1 = .ok (.getfield 7, 3) := by decide +kernel
theorem dX8_hasText_4 : decode cX8_hasText 4 = .ok (.sipush 147, 3) := by decide +kernel
theorem dX8_hasText_7 : decode cX8_hasText 7 = .ok (.bipush 125, 2) := by decide +kernel
theorem dX8_hasText_9 : decode cX8_hasText 9 = .ok (.iload_n 1, 1) := by decide +kernel
theorem dX8_hasText_10 : decode cX8_hasText 10 = .ok (.imul, 1) := by decide +kernel
theorem dX8_hasText_11 : decode cX8_hasText 11 = .ok (.iadd, 1) := by decide +kernel
theorem dX8_hasText_12 : decode cX8_hasText 12 = .ok (.iaload, 1) := by decide +kernel
theorem dX8_hasText_13 : decode cX8_hasText 13 = .ok (.ifCond .le 7, 3) := by decide +kernel
theorem dX8_hasText_16 : decode cX8_hasText 16 = .ok (.iconst 1, 1) := by decide +kernel
theorem dX8_hasText_17 : decode cX8_hasText 17 = .ok (.goto 4, 3) := by decide +kernel
theorem dX8_hasText_20 : decode cX8_hasText 20 = .ok (.iconst 0, 1) := by decide +kernel
theorem dX8_hasText_21 : decode cX8_hasText 21 = .ok (.ireturn, 1) := by decide +kernel
theorem dX8_text_0 : decode cX8_text 0 = .ok (.iload_n 1, 1) := by decide +kernel
theorem dX8_text_1 : decode cX8_text 1 = .ok (.iconst 0, 1) := by decide +kernel
theorem dX8_text_2 : decode cX8_text 2 = .ok (.iconst 1, 1) := by decide +kernel
theorem dX8_text_3 : decode cX8_text 3 = .ok (.invokestatic 50, 3) := by decide +kernel
theorem dX8_text_6 : decode cX8_text 6 = .ok (.ifCond .ne 9, 3) := by decide +kernel
theorem dX8_text_9 : decode cX8_text 9 = .ok (.aload_n 0, 1) := by decide +kernel
theorem dX8_text_10 : decode cX8_text 10 = .ok (.iconst 1, 1) := by decide +kernel
theorem dX8_text_11 : decode cX8_text 11 = .ok (.invokevirtual 62, 3) := by decide +kernel
theorem dX8_text_14 : decode cX8_text 14 = .ok (.ireturn, 1) := by decide +kernel
theorem dX8_text_15 : decode cX8_text 15 = .ok (.aload_n 0, 1) := by decide +kernel
theorem dX8_text_16 : decode cX8_text 16 = .ok (.iload_n 1, 1) := by decide +kernel
theorem dX8_text_17 : decode cX8_text 17 = .ok (.putfield 72, 3) := by decide +kernel
theorem dX8_text_20 : decode cX8_text 20 = .ok (.aload_n 0, 1) := by decide +kernel
theorem dX8_text_21 : decode cX8_text 21 = .ok (.iconst 0, 1) := by decide +kernel
theorem dX8_text_22 : decode cX8_text 22 = .ok (.putfield 68, 3) := by decide +kernel
theorem dX8_text_25 : decode cX8_text 25 = .ok (.aload_n 0, 1) := by decide +kernel
theorem dX8_text_26 : decode cX8_text 26 = .ok (.iconst 0, 1) := by decide +kernel
theorem dX8_text_27 : decode cX8_text 27 = .ok (.putfield 102, 3) := by decide +kernel
theorem dX8_text_30 : decode cX8_text 30 = .ok (.aload_n 0, 1) := by decide +kernel
theorem dX8_text_31 : decode cX8_text 31 = .ok (.iconst 0, 1) := by decide +kernel
theorem dX8_text_32 : decode cX8_text 32 = .ok (.putfield 75, 3) := by decide +kernel
theorem dX8_text_35 : decode cX8_text 35 = .ok (.aload_n 0, 1) := by decide +kernel
theorem dX8_text_36 : decode cX8_text 36 = .ok (.invokevirtual 111, 3) := by decide +kernel
theorem dX8_text_39 : decode cX8_text 39 = .ok (.ifCond .eq 20, 3) := by decide +kernel
theorem dX8_text_42 : decode cX8_text 42 = .ok (.aload_n 0, 1) := by decide +kernel
theorem dX8_text_43 : decode cX8_text 43 = .ok (.getfield 68, 3) := by decide +kernel
theorem dX8_text_46 : decode cX8_text 46 = .ok (.aload_n 0, 1) := by decide +kernel
theorem dX8_text_47 : decode cX8_text 47 = .ok (.getfield 7, 3) := by decide +kernel
theorem dX8_text_50 : decode cX8_text 50 = .ok (.iconst 4, 1) := by decide +kernel
theorem dX8_text_51 : decode cX8_text 51 = .ok (.iaload, 1) := by decide +kernel
theorem dX8_text_52 : decode cX8_text 52 = .ok (.if_icmp .ne 7, 3) := by decide +kernel
theorem dX8_text_55 : decode cX8_text 55 = .ok (.iconst 1, 1) := by decide +kernel
theorem dX8_text_56 : decode cX8_text 56 = .ok (.goto 4, 3) := by decide +kernel
theorem dX8_text_59 : decode cX8_text 59 = .ok (.iconst 0, 1) := by decide +kernel
theorem dX8_text_60 : decode cX8_text 60 = .ok (.istore_n 2, 1) := by decide +kernel
theorem dX8_text_61 : decode cX8_text 61 = .ok (.aload_n 0, 1) := by decide +kernel
theorem dX8_text_62 : decode cX8_text 62 = .ok (.getfield 7, 3) := by decide +kernel
theorem dX8_text_65 : decode cX8_text 65 = .ok (.iconst 4, 1) := by decide +kernel
theorem dX8_text_66 : decode cX8_text 66 = .ok (.iconst 0, 1) := by decide +kernel
theorem dX8_text_67 : decode cX8_text 67 = .ok (.iastore, 1) := by decide +kernel
theorem dX8_text_68 : decode cX8_text 68 = .ok (.iload_n 2, 1) := by decide +kernel
theorem dX8_text_69 : decode cX8_text 69 = .ok (.ifCond .ne 11, 3) := by decide +kernel
theorem dX8_text_72 : decode cX8_text 72 = .ok (.bipush (-10), 2) := by decide +kernel
theorem dX8_text_74 : decode cX8_text 74 = .ok (.aload_n 0, 1) := by decide +kernel
theorem dX8_text_75 : decode cX8_text 75 = .ok (.getfield 68, 3) := by decide +kernel
theorem dX8_text_78 : decode cX8_text 78 = .ok (.isub, 1) := by decide +kernel
theorem dX8_text_79 : decode cX8_text 79 = .ok (.ireturn, 1) := by decide +kernel
theorem dX8_text_80 : decode cX8_text 80 = .ok (.sipush 147, 3) := by decide +kernel
theorem dX8_text_83 : decode cX8_text 83 = .ok (.bipush 125, 2) := by decide +kernel
theorem dX8_text_85 : decode cX8_text 85 = .ok (.iload_n 1, 1) := by decide +kernel
theorem dX8_text_86 : decode cX8_text 86 = .ok (.imul, 1) := by decide +kernel
theorem dX8_text_87 : decode cX8_text 87 = .ok (.iadd, 1) := by decide +kernel
theorem dX8_text_88 : decode cX8_text 88 = .ok (.istore_n 3, 1) := by decide +kernel
theorem dX8_text_89 : decode cX8_text 89 = .ok (.aload_n 0, 1) := by decide +kernel
theorem dX8_text_90 : decode cX8_text 90 = .ok (.getfield 7, 3) := by decide +kernel
theorem dX8_text_93 : decode cX8_text 93 = .ok (.iload_n 3, 1) := by decide +kernel
theorem dX8_text_94 : decode cX8_text 94 = .ok (.aload_n 0, 1) := by decide +kernel
theorem dX8_text_95 : decode cX8_text 95 = .ok (.getfield 75, 3) := by decide +kernel
theorem dX8_text_98 : decode cX8_text 98 = .ok (.iastore, 1) := by decide +kernel
theorem dX8_text_99 : decode cX8_text 99 = .ok (.iconst 0, 1) := by decide +kernel
theorem dX8_text_100 : decode cX8_text 100 = .ok (.istore 4, 2) := by decide +kernel
theorem dX8_text_102 : decode cX8_text 102 = .ok (.iload 4, 2) := by decide +kernel
theorem dX8_text_104 : decode cX8_text 104 = .ok (.iconst 2, 1) := by decide +kernel
theorem dX8_text_105 : decode cX8_text 105 = .ok (.aload_n 0, 1) := by decide +kernel
theorem dX8_text_106 : decode cX8_text 106 = .ok (.getfield 75, 3) := by decide +kernel
theorem dX8_text_109 : decode cX8_text 109 = .ok (.imul, 1) := by decide +kernel
theorem dX8_text_110 : decode cX8_text 110 = .ok (.if_icmp .ge 27, 3) := by decide +kernel
theorem dX8_text_113 : decode cX8_text 113 = .ok (.aload_n 0, 1) := by decide +kernel
theorem dX8_text_114 : decode cX8_text 114 = .ok (.getfield 7, 3) := by decide +kernel
theorem dX8_text_117 : decode cX8_text 117 = .ok (.iload_n 3, 1) := by decide +kernel
theorem dX8_text_118 : decode cX8_text 118 = .ok (.iconst 1, 1) := by decide +kernel
theorem dX8_text_119 : decode cX8_text 119 = .ok (.iadd, 1) := by decide +kernel
theorem dX8_text_120 : decode cX8_text 120 = .ok (.iload 4, 2) := by decide +kernel
theorem dX8_text_122 : decode cX8_text 122 = .ok (.iadd, 1) := by decide +kernel
theorem dX8_text_123 : decode cX8_text 123 = .ok (.aload_n 0, 1) := by decide +kernel
theorem dX8_text_124 : decode cX8_text 124 = .ok (.getfield 25, 3) := by decide +kernel
theorem dX8_text_127 : decode cX8_text 127 = .ok (.iload 4, 2) := by decide +kernel
theorem dX8_text_129 : decode cX8_text 129 = .ok (.iaload, 1) := by decide +kernel
theorem dX8_text_130 : decode cX8_text 130 = .ok (.iastore, 1) := by decide +kernel
theorem dX8_text_131 : decode cX8_text 131 = .ok (.iinc 4 1, 3) := by decide +kernel
theorem dX8_text_134 : decode cX8_text 134 = .ok (.goto (-32), 3) := by decide +kernel
theorem dX8_text_137 : decode cX8_text 137 = .ok (.iconst 1, 1) := by decide +kernel
theorem dX8_text_138 : decode cX8_text 138 = .ok (.ireturn, 1) := by decide +kernel
theorem dX8_untell_0 : decode cX8_untell 0 = .ok (.iload_n 1, 1) := by decide +kernel
theorem dX8_untell_1 : decode cX8_untell 1 = .ok (.iconst 0, 1) := by decide +kernel
theorem dX8_untell_2 : decode cX8_untell 2 = .ok (.iconst 1, 1) := by decide +kernel
theorem dX8_untell_3 : decode cX8_untell 3 = .ok (.invokestatic 50, 3) := by decide +kernel
theorem dX8_untell_6 : decode cX8_untell 6 = .ok (.ifCond .ne 9, 3) := by decide +kernel
theorem dX8_untell_9 : decode cX8_untell 9 = .ok (.aload_n 0, 1) := by decide +kernel
theorem dX8_untell_10 : decode cX8_untell 10 = .ok (.iconst 1, 1) := by decide +kernel
theorem dX8_untell_11 : decode cX8_untell 11 = .ok (.invokevirtual 62, 3) := by decide +kernel
theorem dX8_untell_14 : decode cX8_untell 14 = .ok (.ireturn, 1) := by decide +kernel
theorem dX8_untell_15 : decode cX8_untell 15 = .ok (.aload_n 0, 1) := by decide +kernel
theorem dX8_untell_16 : decode cX8_untell 16 = .ok (.iload_n 1, 1) := by decide +kernel
theorem dX8_untell_17 : decode cX8_untell 17 = .ok (.invokevirtual 114, 3) := by decide +kernel
theorem dX8_untell_20 : decode cX8_untell 20 = .ok (.ifCond .eq 7, 3) := by decide +kernel
theorem dX8_untell_23 : decode cX8_untell 23 = .ok (.iconst 1, 1) := by decide +kernel
theorem dX8_untell_24 : decode cX8_untell 24 = .ok (.goto 4, 3) := by decide +kernel
theorem dX8_untell_27 : decode cX8_untell 27 = .ok (.iconst 0, 1) := by decide +kernel
theorem dX8_untell_28 : decode cX8_untell 28 = .ok (.istore_n 2, 1) := by decide +kernel
theorem dX8_untell_29 : decode cX8_untell 29 = .ok (.aload_n 0, 1) := by decide +kernel
theorem dX8_untell_30 : decode cX8_untell 30 = .ok (.getfield 7, 3) := by decide +kernel
theorem dX8_untell_33 : decode cX8_untell 33 = .ok (.sipush 147, 3) := by decide +kernel
theorem dX8_untell_36 : decode cX8_untell 36 = .ok (.bipush 125, 2) := by decide +kernel
theorem dX8_untell_38 : decode cX8_untell 38 = .ok (.iload_n 1, 1) := by decide +kernel
theorem dX8_untell_39 : decode cX8_untell 39 = .ok (.imul, 1) := by decide +kernel
theorem dX8_untell_40 : decode cX8_untell 40 = .ok (.iadd, 1) := by decide +kernel
theorem dX8_untell_41 : decode cX8_untell 41 = .ok (.iconst 0, 1) := by decide +kernel
theorem dX8_untell_42 : decode cX8_untell 42 = .ok (.iastore, 1) := by decide +kernel
theorem dX8_untell_43 : decode cX8_untell 43 = .ok (.iload_n 2, 1) := by decide +kernel
theorem dX8_untell_44 : decode cX8_untell 44 = .ok (.ireturn, 1) := by decide +kernel
theorem dX8_joined_0 : decode cX8_joined 0 = .ok (.iload_n 0, 1) := by decide +kernel
theorem dX8_joined_1 : decode cX8_joined 1 = .ok (.tableswitch 217 37 62 #[153, 203, 217, 217, 217, 127, 119, 217, 123, 217, 131, 217, 217, 217, 217, 217, 217, 217, 217, 217, 217, 217, 217, 170, 192, 181], 119) := by decide +kernel
theorem dX8_joined_120 : decode cX8_joined 120 = .ok (.iload_n 1, 1) := by decide +kernel
theorem dX8_joined_121 : decode cX8_joined 121 = .ok (.iload_n 2, 1) := by decide +kernel
theorem dX8_joined_122 : decode cX8_joined 122 = .ok (.iadd, 1) := by decide +kernel
theorem dX8_joined_123 : decode cX8_joined 123 = .ok (.ireturn, 1) := by decide +kernel
theorem dX8_joined_124 : decode cX8_joined 124 = .ok (.iload_n 1, 1) := by decide +kernel
theorem dX8_joined_125 : decode cX8_joined 125 = .ok (.iload_n 2, 1) := by decide +kernel
theorem dX8_joined_126 : decode cX8_joined 126 = .ok (.isub, 1) := by decide +kernel
theorem dX8_joined_127 : decode cX8_joined 127 = .ok (.ireturn, 1) := by decide +kernel
theorem dX8_joined_128 : decode cX8_joined 128 = .ok (.iload_n 1, 1) := by decide +kernel
theorem dX8_joined_129 : decode cX8_joined 129 = .ok (.iload_n 2, 1) := by decide +kernel
theorem dX8_joined_130 : decode cX8_joined 130 = .ok (.imul, 1) := by decide +kernel
theorem dX8_joined_131 : decode cX8_joined 131 = .ok (.ireturn, 1) := by decide +kernel
theorem dX8_joined_132 : decode cX8_joined 132 = .ok (.iload_n 2, 1) := by decide +kernel
theorem dX8_joined_133 : decode cX8_joined 133 = .ok (.ifCond .ne 7, 3) := by decide +kernel
theorem dX8_joined_136 : decode cX8_joined 136 = .ok (.iconst 0, 1) := by decide +kernel
theorem dX8_joined_137 : decode cX8_joined 137 = .ok (.goto 16, 3) := by decide +kernel
theorem dX8_joined_140 : decode cX8_joined 140 = .ok (.iload_n 2, 1) := by decide +kernel
theorem dX8_joined_141 : decode cX8_joined 141 = .ok (.iconst (-1), 1) := by decide +kernel
theorem dX8_joined_142 : decode cX8_joined 142 = .ok (.if_icmp .ne 8, 3) := by decide +kernel
theorem dX8_joined_145 : decode cX8_joined 145 = .ok (.iload_n 1, 1) := by decide +kernel
theorem dX8_joined_146 : decode cX8_joined 146 = .ok (.ineg, 1) := by decide +kernel
theorem dX8_joined_147 : decode cX8_joined 147 = .ok (.goto 6, 3) := by decide +kernel
theorem dX8_joined_150 : decode cX8_joined 150 = .ok (.iload_n 1, 1) := by decide +kernel
theorem dX8_joined_151 : decode cX8_joined 151 = .ok (.iload_n 2, 1) := by decide +kernel
theorem dX8_joined_152 : decode cX8_joined 152 = .ok (.idiv, 1) := by decide +kernel
theorem dX8_joined_153 : decode cX8_joined 153 = .ok (.ireturn, 1) := by decide +kernel
theorem dX8_joined_154 : decode cX8_joined 154 = .ok (.iload_n 2, 1) := by decide +kernel
theorem dX8_joined_155 : decode cX8_joined 155 = .ok (.ifCond .eq 8, 3) := by decide +kernel
theorem dX8_joined_158 : decode cX8_joined 158 = .ok (.iload_n 2, 1) := by decide +kernel
theorem dX8_joined_159 : decode cX8_joined 159 = .ok (.iconst (-1), 1) := by decide +kernel
theorem dX8_joined_160 : decode cX8_joined 160 = .ok (.if_icmp .ne 7, 3) := by decide +kernel
theorem dX8_joined_163 : decode cX8_joined 163 = .ok (.iconst 0, 1) := by decide +kernel
theorem dX8_joined_164 : decode cX8_joined 164 = .ok (.goto 6, 3) := by decide +kernel
theorem dX8_joined_167 : decode cX8_joined 167 = .ok (.iload_n 1, 1) := by decide +kernel
theorem dX8_joined_168 : decode cX8_joined 168 = .ok (.iload_n 2, 1) := by decide +kernel
theorem dX8_joined_169 : decode cX8_joined 169 = .ok (.irem, 1) := by decide +kernel
theorem dX8_joined_170 : decode cX8_joined 170 = .ok (.ireturn, 1) := by decide +kernel
theorem dX8_joined_171 : decode cX8_joined 171 = .ok (.iload_n 1, 1) := by decide +kernel
theorem dX8_joined_172 : decode cX8_joined 172 = .ok (.iload_n 2, 1) := by decide +kernel
theorem dX8_joined_173 : decode cX8_joined 173 = .ok (.if_icmp .ge 7, 3) := by decide +kernel
theorem dX8_joined_176 : decode cX8_joined 176 = .ok (.iconst 1, 1) := by decide +kernel
theorem dX8_joined_177 : decode cX8_joined 177 = .ok (.goto 4, 3) := by decide +kernel
theorem dX8_joined_180 : decode cX8_joined 180 = .ok (.iconst 0, 1) := by decide +kernel
theorem dX8_joined_181 : decode cX8_joined 181 = .ok (.ireturn, 1) := by decide +kernel
theorem dX8_joined_182 : decode cX8_joined 182 = .ok (.iload_n 1, 1) := by decide +kernel
theorem dX8_joined_183 : decode cX8_joined 183 = .ok (.iload_n 2, 1) := by decide +kernel
theorem dX8_joined_184 : decode cX8_joined 184 = .ok (.if_icmp .le 7, 3) := by decide +kernel
theorem dX8_joined_187 : decode cX8_joined 187 = .ok (.iconst 1, 1) := by decide +kernel
theorem dX8_joined_188 : decode cX8_joined 188 = .ok (.goto 4, 3) := by decide +kernel
theorem dX8_joined_191 : decode cX8_joined 191 = .ok (.iconst 0, 1) := by decide +kernel
theorem dX8_joined_192 : decode cX8_joined 192 = .ok (.ireturn, 1) := by decide +kernel
theorem dX8_joined_193 : decode cX8_joined 193 = .ok (.iload_n 1, 1) := by decide +kernel
theorem dX8_joined_194 : decode cX8_joined 194 = .ok (.iload_n 2, 1) := by decide +kernel
theorem dX8_joined_195 : decode cX8_joined 195 = .ok (.if_icmp .ne 7, 3) := by decide +kernel
theorem dX8_joined_198 : decode cX8_joined 198 = .ok (.iconst 1, 1) := by decide +kernel
theorem dX8_joined_199 : decode cX8_joined 199 = .ok (.goto 4, 3) := by decide +kernel
theorem dX8_joined_202 : decode cX8_joined 202 = .ok (.iconst 0, 1) := by decide +kernel
theorem dX8_joined_203 : decode cX8_joined 203 = .ok (.ireturn, 1) := by decide +kernel
theorem dX8_joined_204 : decode cX8_joined 204 = .ok (.iload_n 1, 1) := by decide +kernel
theorem dX8_joined_205 : decode cX8_joined 205 = .ok (.ifCond .eq 11, 3) := by decide +kernel
theorem dX8_joined_208 : decode cX8_joined 208 = .ok (.iload_n 2, 1) := by decide +kernel
theorem dX8_joined_209 : decode cX8_joined 209 = .ok (.ifCond .eq 7, 3) := by decide +kernel
theorem dX8_joined_212 : decode cX8_joined 212 = .ok (.iconst 1, 1) := by decide +kernel
theorem dX8_joined_213 : decode cX8_joined 213 = .ok (.goto 4, 3) := by decide +kernel
theorem dX8_joined_216 : decode cX8_joined 216 = .ok (.iconst 0, 1) := by decide +kernel
theorem dX8_joined_217 : decode cX8_joined 217 = .ok (.ireturn, 1) := by decide +kernel
theorem dX8_joined_218 : decode cX8_joined 218 = .ok (.iload_n 1, 1) := by decide +kernel
theorem dX8_joined_219 : decode cX8_joined 219 = .ok (.ifCond .ne 7, 3) := by decide +kernel
theorem dX8_joined_222 : decode cX8_joined 222 = .ok (.iload_n 2, 1) := by decide +kernel
theorem dX8_joined_223 : decode cX8_joined 223 = .ok (.ifCond .eq 7, 3) := by decide +kernel
theorem dX8_joined_226 : decode cX8_joined 226 = .ok (.iconst 1, 1) := by decide +kernel
theorem dX8_joined_227 : decode cX8_joined 227 = .ok (.goto 4, 3) := by decide +kernel
theorem dX8_joined_230 : decode cX8_joined 230 = .ok (.iconst 0, 1) := by decide +kernel
theorem dX8_joined_231 : decode cX8_joined 231 = .ok (.ireturn, 1) := by decide +kernel
theorem dX8_worked_0 : decode cX8_worked 0 = .ok (.sipush 147, 3) := by decide +kernel
theorem dX8_worked_3 : decode cX8_worked 3 = .ok (.bipush 125, 2) := by decide +kernel
theorem dX8_worked_5 : decode cX8_worked 5 = .ok (.iload_n 1, 1) := by decide +kernel
theorem dX8_worked_6 : decode cX8_worked 6 = .ok (.imul, 1) := by decide +kernel
theorem dX8_worked_7 : decode cX8_worked 7 = .ok (.iadd, 1) := by decide +kernel
theorem dX8_worked_8 : decode cX8_worked 8 = .ok (.istore_n 2, 1) := by decide +kernel
theorem dX8_worked_9 : decode cX8_worked 9 = .ok (.iconst 0, 1) := by decide +kernel
theorem dX8_worked_10 : decode cX8_worked 10 = .ok (.istore_n 3, 1) := by decide +kernel
theorem dX8_worked_11 : decode cX8_worked 11 = .ok (.iconst 0, 1) := by decide +kernel
theorem dX8_worked_12 : decode cX8_worked 12 = .ok (.istore 4, 2) := by decide +kernel
theorem dX8_worked_14 : decode cX8_worked 14 = .ok (.iload 4, 2) := by decide +kernel
theorem dX8_worked_16 : decode cX8_worked 16 = .ok (.aload_n 0, 1) := by decide +kernel
theorem dX8_worked_17 : decode cX8_worked 17 = .ok (.getfield 7, 3) := by decide +kernel
theorem dX8_worked_20 : decode cX8_worked 20 = .ok (.iload_n 2, 1) := by decide +kernel
theorem dX8_worked_21 : decode cX8_worked 21 = .ok (.iaload, 1) := by decide +kernel
theorem dX8_worked_22 : decode cX8_worked 22 = .ok (.if_icmp .ge 142, 3) := by decide +kernel
theorem dX8_worked_25 : decode cX8_worked 25 = .ok (.aload_n 0, 1) := by decide +kernel
theorem dX8_worked_26 : decode cX8_worked 26 = .ok (.getfield 7, 3) := by decide +kernel
theorem dX8_worked_29 : decode cX8_worked 29 = .ok (.iload_n 2, 1) := by decide +kernel
theorem dX8_worked_30 : decode cX8_worked 30 = .ok (.iconst 1, 1) := by decide +kernel
theorem dX8_worked_31 : decode cX8_worked 31 = .ok (.iadd, 1) := by decide +kernel
theorem dX8_worked_32 : decode cX8_worked 32 = .ok (.iconst 2, 1) := by decide +kernel
theorem dX8_worked_33 : decode cX8_worked 33 = .ok (.iload 4, 2) := by decide +kernel
theorem dX8_worked_35 : decode cX8_worked 35 = .ok (.imul, 1) := by decide +kernel
theorem dX8_worked_36 : decode cX8_worked 36 = .ok (.iadd, 1) := by decide +kernel
theorem dX8_worked_37 : decode cX8_worked 37 = .ok (.iaload, 1) := by decide +kernel
theorem dX8_worked_38 : decode cX8_worked 38 = .ok (.istore 5, 2) := by decide +kernel
theorem dX8_worked_40 : decode cX8_worked 40 = .ok (.aload_n 0, 1) := by decide +kernel
theorem dX8_worked_41 : decode cX8_worked 41 = .ok (.getfield 7, 3) := by decide +kernel
theorem dX8_worked_44 : decode cX8_worked 44 = .ok (.iload_n 2, 1) := by decide +kernel
theorem dX8_worked_45 : decode cX8_worked 45 = .ok (.iconst 2, 1) := by decide +kernel
theorem dX8_worked_46 : decode cX8_worked 46 = .ok (.iadd, 1) := by decide +kernel
theorem dX8_worked_47 : decode cX8_worked 47 = .ok (.iconst 2, 1) := by decide +kernel
theorem dX8_worked_48 : decode cX8_worked 48 = .ok (.iload 4, 2) := by decide +kernel
theorem dX8_worked_50 : decode cX8_worked 50 = .ok (.imul, 1) := by decide +kernel
theorem dX8_worked_51 : decode cX8_worked 51 = .ok (.iadd, 1) := by decide +kernel
theorem dX8_worked_52 : decode cX8_worked 52 = .ok (.iaload, 1) := by decide +kernel
theorem dX8_worked_53 : decode cX8_worked 53 = .ok (.istore 6, 2) := by decide +kernel
theorem dX8_worked_55 : decode cX8_worked 55 = .ok (.iload 5, 2) := by decide +kernel
theorem dX8_worked_57 : decode cX8_worked 57 = .ok (.ifCond .eq 9, 3) := by decide +kernel
theorem dX8_worked_60 : decode cX8_worked 60 = .ok (.iload 5, 2) := by decide +kernel
theorem dX8_worked_62 : decode cX8_worked 62 = .ok (.iconst 1, 1) := by decide +kernel
theorem dX8_worked_63 : decode cX8_worked 63 = .ok (.if_icmp .ne 32, 3) := by decide +kernel
theorem dX8_worked_66 : decode cX8_worked 66 = .ok (.aload_n 0, 1) := by decide +kernel
theorem dX8_worked_67 : decode cX8_worked 67 = .ok (.getfield 31, 3) := by decide +kernel
theorem dX8_worked_70 : decode cX8_worked 70 = .ok (.iload_n 3, 1) := by decide +kernel
theorem dX8_worked_71 : decode cX8_worked 71 = .ok (.iload 5, 2) := by decide +kernel
theorem dX8_worked_73 : decode cX8_worked 73 = .ok (.ifCond .ne 8, 3) := by decide +kernel
theorem dX8_worked_76 : decode cX8_worked 76 = .ok (.iload 6, 2) := by decide +kernel
theorem dX8_worked_78 : decode cX8_worked 78 = .ok (.goto 10, 3) := by decide +kernel
theorem dX8_worked_81 : decode cX8_worked 81 = .ok (.aload_n 0, 1) := by decide +kernel
theorem dX8_worked_82 : decode cX8_worked 82 = .ok (.getfield 28, 3) := by decide +kernel
theorem dX8_worked_85 : decode cX8_worked 85 = .ok (.iload 6, 2) := by decide +kernel
theorem dX8_worked_87 : decode cX8_worked 87 = .ok (.iaload, 1) := by decide +kernel
theorem dX8_worked_88 : decode cX8_worked 88 = .ok (.iastore, 1) := by decide +kernel
theorem dX8_worked_89 : decode cX8_worked 89 = .ok (.iinc 3 1, 3) := by decide +kernel
theorem dX8_worked_92 : decode cX8_worked 92 = .ok (.goto 66, 3) := by decide +kernel
theorem dX8_worked_95 : decode cX8_worked 95 = .ok (.iload 5, 2) := by decide +kernel
theorem dX8_worked_97 : decode cX8_worked 97 = .ok (.iconst 2, 1) := by decide +kernel
theorem dX8_worked_98 : decode cX8_worked 98 = .ok (.if_icmp .ne 30, 3) := by decide +kernel
theorem dX8_worked_101 : decode cX8_worked 101 = .ok (.aload_n 0, 1) := by decide +kernel
theorem dX8_worked_102 : decode cX8_worked 102 = .ok (.getfield 31, 3) := by decide +kernel
theorem dX8_worked_105 : decode cX8_worked 105 = .ok (.iload_n 3, 1) := by decide +kernel
theorem dX8_worked_106 : decode cX8_worked 106 = .ok (.iconst 1, 1) := by decide +kernel
theorem dX8_worked_107 : decode cX8_worked 107 = .ok (.isub, 1) := by decide +kernel
theorem dX8_worked_108 : decode cX8_worked 108 = .ok (.aload_n 0, 1) := by decide +kernel
theorem dX8_worked_109 : decode cX8_worked 109 = .ok (.getfield 31, 3) := by decide +kernel
theorem dX8_worked_112 : decode cX8_worked 112 = .ok (.iload_n 3, 1) := by decide +kernel
theorem dX8_worked_113 : decode cX8_worked 113 = .ok (.iconst 1, 1) := by decide +kernel
theorem dX8_worked_114 : decode cX8_worked 114 = .ok (.isub, 1) := by decide +kernel
theorem dX8_worked_115 : decode cX8_worked 115 = .ok (.iaload, 1) := by decide +kernel
theorem dX8_worked_116 : decode cX8_worked 116 = .ok (.ifCond .ne 7, 3) := by decide +kernel
theorem dX8_worked_119 : decode cX8_worked 119 = .ok (.iconst 1, 1) := by decide +kernel
theorem dX8_worked_120 : decode cX8_worked 120 = .ok (.goto 4, 3) := by decide +kernel
theorem dX8_worked_123 : decode cX8_worked 123 = .ok (.iconst 0, 1) := by decide +kernel
theorem dX8_worked_124 : decode cX8_worked 124 = .ok (.iastore, 1) := by decide +kernel
theorem dX8_worked_125 : decode cX8_worked 125 = .ok (.goto 33, 3) := by decide +kernel
theorem dX8_worked_128 : decode cX8_worked 128 = .ok (.iinc 3 (-1), 3) := by decide +kernel
theorem dX8_worked_131 : decode cX8_worked 131 = .ok (.aload_n 0, 1) := by decide +kernel
theorem dX8_worked_132 : decode cX8_worked 132 = .ok (.getfield 31, 3) := by decide +kernel
theorem dX8_worked_135 : decode cX8_worked 135 = .ok (.iload_n 3, 1) := by decide +kernel
theorem dX8_worked_136 : decode cX8_worked 136 = .ok (.iconst 1, 1) := by decide +kernel
theorem dX8_worked_137 : decode cX8_worked 137 = .ok (.isub, 1) := by decide +kernel
theorem dX8_worked_138 : decode cX8_worked 138 = .ok (.iload 6, 2) := by decide +kernel
theorem dX8_worked_140 : decode cX8_worked 140 = .ok (.aload_n 0, 1) := by decide +kernel
theorem dX8_worked_141 : decode cX8_worked 141 = .ok (.getfield 31, 3) := by decide +kernel
theorem dX8_worked_144 : decode cX8_worked 144 = .ok (.iload_n 3, 1) := by decide +kernel
theorem dX8_worked_145 : decode cX8_worked 145 = .ok (.iconst 1, 1) := by decide +kernel
theorem dX8_worked_146 : decode cX8_worked 146 = .ok (.isub, 1) := by decide +kernel
theorem dX8_worked_147 : decode cX8_worked 147 = .ok (.iaload, 1) := by decide +kernel
theorem dX8_worked_148 : decode cX8_worked 148 = .ok (.aload_n 0, 1) := by decide +kernel
theorem dX8_worked_149 : decode cX8_worked 149 = .ok (.getfield 31, 3) := by decide +kernel
theorem dX8_worked_152 : decode cX8_worked 152 = .ok (.iload_n 3, 1) := by decide +kernel
theorem dX8_worked_153 : decode cX8_worked 153 = .ok (.iaload, 1) := by decide +kernel
theorem dX8_worked_154 : decode cX8_worked 154 = .ok (.invokestatic 117, 3) := by decide +kernel
theorem dX8_worked_157 : decode cX8_worked 157 = .ok (.iastore, 1) := by decide +kernel
theorem dX8_worked_158 : decode cX8_worked 158 = .ok (.iinc 4 1, 3) := by decide +kernel
theorem dX8_worked_161 : decode cX8_worked 161 = .ok (.goto (-147), 3) := by decide +kernel
theorem dX8_worked_164 : decode cX8_worked 164 = .ok (.aload_n 0, 1) := by decide +kernel
theorem dX8_worked_165 : decode cX8_worked 165 = .ok (.getfield 31, 3) := by decide +kernel
theorem dX8_worked_168 : decode cX8_worked 168 = .ok (.iconst 0, 1) := by decide +kernel
theorem dX8_worked_169 : decode cX8_worked 169 = .ok (.iaload, 1) := by decide +kernel
theorem dX8_worked_170 : decode cX8_worked 170 = .ok (.ireturn, 1) := by decide +kernel
theorem dX8_blowsTold_0 : decode cX8_blowsTold 0 = .ok (.aload_n 0, 1) := by decide +kernel
theorem dX8_blowsTold_1 : decode cX8_blowsTold 1 = .ok (.iload_n 1, 1) := by decide +kernel
theorem dX8_blowsTold_2 : decode cX8_blowsTold 2 = .ok (.iconst 1, 1) := by decide +kernel
theorem dX8_blowsTold_3 : decode cX8_blowsTold 3 = .ok (.invokevirtual 58, 3) := by decide +kernel
theorem dX8_blowsTold_6 : decode cX8_blowsTold 6 = .ok (.istore_n 3, 1) := by decide +kernel
theorem dX8_blowsTold_7 : decode cX8_blowsTold 7 = .ok (.aload_n 0, 1) := by decide +kernel
theorem dX8_blowsTold_8 : decode cX8_blowsTold 8 = .ok (.iconst 0, 1) := by decide +kernel
theorem dX8_blowsTold_9 : decode cX8_blowsTold 9 = .ok (.invokevirtual 114, 3) := by decide +kernel
theorem dX8_blowsTold_12 : decode cX8_blowsTold 12 = .ok (.ifCond .ne 14, 3) := by decide +kernel
theorem dX8_blowsTold_15 : decode cX8_blowsTold 15 = .ok (.iload_n 2, 1) := by decide +kernel
theorem dX8_blowsTold_16 : decode cX8_blowsTold 16 = .ok (.iconst 3, 1) := by decide +kernel
theorem dX8_blowsTold_17 : decode cX8_blowsTold 17 = .ok (.if_icmp .ge 7, 3) := by decide +kernel
theorem dX8_blowsTold_20 : decode cX8_blowsTold 20 = .ok (.iload_n 3, 1) := by decide +kernel
theorem dX8_blowsTold_21 : decode cX8_blowsTold 21 = .ok (.goto 4, 3) := by decide +kernel
theorem dX8_blowsTold_24 : decode cX8_blowsTold 24 = .ok (.iconst 0, 1) := by decide +kernel
theorem dX8_blowsTold_25 : decode cX8_blowsTold 25 = .ok (.ireturn, 1) := by decide +kernel
theorem dX8_blowsTold_26 : decode cX8_blowsTold 26 = .ok (.aload_n 0, 1) := by decide +kernel
theorem dX8_blowsTold_27 : decode cX8_blowsTold 27 = .ok (.getfield 28, 3) := by decide +kernel
theorem dX8_blowsTold_30 : decode cX8_blowsTold 30 = .ok (.bipush 104, 2) := by decide +kernel
theorem dX8_blowsTold_32 : decode cX8_blowsTold 32 = .ok (.iload_n 2, 1) := by decide +kernel
theorem dX8_blowsTold_33 : decode cX8_blowsTold 33 = .ok (.iastore, 1) := by decide +kernel
theorem dX8_blowsTold_34 : decode cX8_blowsTold 34 = .ok (.aload_n 0, 1) := by decide +kernel
theorem dX8_blowsTold_35 : decode cX8_blowsTold 35 = .ok (.getfield 28, 3) := by decide +kernel
theorem dX8_blowsTold_38 : decode cX8_blowsTold 38 = .ok (.bipush 119, 2) := by decide +kernel
theorem dX8_blowsTold_40 : decode cX8_blowsTold 40 = .ok (.aload_n 0, 1) := by decide +kernel
theorem dX8_blowsTold_41 : decode cX8_blowsTold 41 = .ok (.iload_n 1, 1) := by decide +kernel
theorem dX8_blowsTold_42 : decode cX8_blowsTold 42 = .ok (.iconst 2, 1) := by decide +kernel
theorem dX8_blowsTold_43 : decode cX8_blowsTold 43 = .ok (.invokevirtual 58, 3) := by decide +kernel
theorem dX8_blowsTold_46 : decode cX8_blowsTold 46 = .ok (.iastore, 1) := by decide +kernel
theorem dX8_blowsTold_47 : decode cX8_blowsTold 47 = .ok (.aload_n 0, 1) := by decide +kernel
theorem dX8_blowsTold_48 : decode cX8_blowsTold 48 = .ok (.getfield 28, 3) := by decide +kernel
theorem dX8_blowsTold_51 : decode cX8_blowsTold 51 = .ok (.bipush 109, 2) := by decide +kernel
theorem dX8_blowsTold_53 : decode cX8_blowsTold 53 = .ok (.iload_n 3, 1) := by decide +kernel
theorem dX8_blowsTold_54 : decode cX8_blowsTold 54 = .ok (.iastore, 1) := by decide +kernel
theorem dX8_blowsTold_55 : decode cX8_blowsTold 55 = .ok (.aload_n 0, 1) := by decide +kernel
theorem dX8_blowsTold_56 : decode cX8_blowsTold 56 = .ok (.iconst 0, 1) := by decide +kernel
theorem dX8_blowsTold_57 : decode cX8_blowsTold 57 = .ok (.invokevirtual 121, 3) := by decide +kernel
theorem dX8_blowsTold_60 : decode cX8_blowsTold 60 = .ok (.ireturn, 1) := by decide +kernel
theorem dX8_force_0 : decode cX8_force 0 = .ok (.aload_n 0, 1) := by decide +kernel
theorem dX8_force_1 : decode cX8_force 1 = .ok (.iload_n 1, 1) := by decide +kernel
theorem dX8_force_2 : decode cX8_force 2 = .ok (.invokevirtual 124, 3) := by decide +kernel
theorem dX8_force_5 : decode cX8_force 5 = .ok (.ifCond .eq 5, 3) := by decide +kernel
theorem dX8_force_8 : decode cX8_force 8 = .ok (.iconst 0, 1) := by decide +kernel
theorem dX8_force_9 : decode cX8_force 9 = .ok (.ireturn, 1) := by decide +kernel
theorem dX8_force_10 : decode cX8_force 10 = .ok (.aload_n 0, 1) := by decide +kernel
theorem dX8_force_11 : decode cX8_force 11 = .ok (.getfield 7, 3) := by decide +kernel
theorem dX8_force_14 : decode cX8_force 14 = .ok (.iconst 1, 1) := by decide +kernel
theorem dX8_force_15 : decode cX8_force 15 = .ok (.iaload, 1) := by decide +kernel
theorem dX8_force_16 : decode cX8_force 16 = .ok (.aload_n 0, 1) := by decide +kernel
theorem dX8_force_17 : decode cX8_force 17 = .ok (.iload_n 1, 1) := by decide +kernel
theorem dX8_force_18 : decode cX8_force 18 = .ok (.iconst 3, 1) := by decide +kernel
theorem dX8_force_19 : decode cX8_force 19 = .ok (.invokevirtual 58, 3) := by decide +kernel
theorem dX8_force_22 : decode cX8_force 22 = .ok (.isub, 1) := by decide +kernel
theorem dX8_force_23 : decode cX8_force 23 = .ok (.istore_n 2, 1) := by decide +kernel
theorem dX8_force_24 : decode cX8_force 24 = .ok (.aload_n 0, 1) := by decide +kernel
theorem dX8_force_25 : decode cX8_force 25 = .ok (.iload_n 1, 1) := by decide +kernel
theorem dX8_force_26 : decode cX8_force 26 = .ok (.iconst 1, 1) := by decide +kernel
theorem dX8_force_27 : decode cX8_force 27 = .ok (.invokevirtual 58, 3) := by decide +kernel
theorem dX8_force_30 : decode cX8_force 30 = .ok (.istore_n 3, 1) := by decide +kernel
theorem dX8_force_31 : decode cX8_force 31 = .ok (.iload_n 2, 1) := by decide +kernel
theorem dX8_force_32 : decode cX8_force 32 = .ok (.iconst 3, 1) := by decide +kernel
theorem dX8_force_33 : decode cX8_force 33 = .ok (.if_icmp .ge 7, 3) := by decide +kernel
theorem dX8_force_36 : decode cX8_force 36 = .ok (.iload_n 3, 1) := by decide +kernel
theorem dX8_force_37 : decode cX8_force 37 = .ok (.goto 4, 3) := by decide +kernel
theorem dX8_force_40 : decode cX8_force 40 = .ok (.iconst 0, 1) := by decide +kernel
theorem dX8_force_41 : decode cX8_force 41 = .ok (.istore 4, 2) := by decide +kernel
theorem dX8_force_43 : decode cX8_force 43 = .ok (.iload 4, 2) := by decide +kernel
theorem dX8_force_45 : decode cX8_force 45 = .ok (.istore 5, 2) := by decide +kernel
theorem dX8_force_47 : decode cX8_force 47 = .ok (.aload_n 0, 1) := by decide +kernel
theorem dX8_force_48 : decode cX8_force 48 = .ok (.iload_n 1, 1) := by decide +kernel
theorem dX8_force_49 : decode cX8_force 49 = .ok (.iconst 0, 1) := by decide +kernel
theorem dX8_force_50 : decode cX8_force 50 = .ok (.invokevirtual 58, 3) := by decide +kernel
theorem dX8_force_53 : decode cX8_force 53 = .ok (.tableswitch 122 1 6 #[39, 47, 65, 71, 91, 111], 39) := by decide +kernel
theorem dX8_force_92 : decode cX8_force 92 = .ok (.iload 4, 2) := by decide +kernel
theorem dX8_force_94 : decode cX8_force 94 = .ok (.ineg, 1) := by decide +kernel
theorem dX8_force_95 : decode cX8_force 95 = .ok (.istore 5, 2) := by decide +kernel
theorem dX8_force_97 : decode cX8_force 97 = .ok (.goto 78, 3) := by decide +kernel
theorem dX8_force_100 : decode cX8_force 100 = .ok (.iload_n 2, 1) := by decide +kernel
theorem dX8_force_101 : decode cX8_force 101 = .ok (.bipush 6, 2) := by decide +kernel
theorem dX8_force_103 : decode cX8_force 103 = .ok (.if_icmp .ge 9, 3) := by decide +kernel
theorem dX8_force_106 : decode cX8_force 106 = .ok (.iload_n 3, 1) := by decide +kernel
theorem dX8_force_107 : decode cX8_force 107 = .ok (.iconst 2, 1) := by decide +kernel
theorem dX8_force_108 : decode cX8_force 108 = .ok (.idiv, 1) := by decide +kernel
theorem dX8_force_109 : decode cX8_force 109 = .ok (.goto 4, 3) := by decide +kernel
theorem dX8_force_112 : decode cX8_force 112 = .ok (.iconst 0, 1) := by decide +kernel
theorem dX8_force_113 : decode cX8_force 113 = .ok (.istore 5, 2) := by decide +kernel
theorem dX8_force_115 : decode cX8_force 115 = .ok (.goto 60, 3) := by decide +kernel
theorem dX8_force_118 : decode cX8_force 118 = .ok (.iconst 0, 1) := by decide +kernel
theorem dX8_force_119 : decode cX8_force 119 = .ok (.istore 5, 2) := by decide +kernel
theorem dX8_force_121 : decode cX8_force 121 = .ok (.goto 54, 3) := by decide +kernel
theorem dX8_force_124 : decode cX8_force 124 = .ok (.iload_n 2, 1) := by decide +kernel
theorem dX8_force_125 : decode cX8_force 125 = .ok (.ifCond .ne 11, 3) := by decide +kernel
theorem dX8_force_128 : decode cX8_force 128 = .ok (.bipush (-2), 2) := by decide +kernel
theorem dX8_force_130 : decode cX8_force 130 = .ok (.iload 4, 2) := by decide +kernel
theorem dX8_force_132 : decode cX8_force 132 = .ok (.imul, 1) := by decide +kernel
theorem dX8_force_133 : decode cX8_force 133 = .ok (.goto 6, 3) := by decide +kernel
theorem dX8_force_136 : decode cX8_force 136 = .ok (.iload 4, 2) := by decide +kernel
theorem dX8_force_138 : decode cX8_force 138 = .ok (.ineg, 1) := by decide +kernel
theorem dX8_force_139 : decode cX8_force 139 = .ok (.istore 5, 2) := by decide +kernel
theorem dX8_force_141 : decode cX8_force 141 = .ok (.goto 34, 3) := by decide +kernel
theorem dX8_force_144 : decode cX8_force 144 = .ok (.iload_n 2, 1) := by decide +kernel
theorem dX8_force_145 : decode cX8_force 145 = .ok (.iconst 2, 1) := by decide +kernel
theorem dX8_force_146 : decode cX8_force 146 = .ok (.idiv, 1) := by decide +kernel
theorem dX8_force_147 : decode cX8_force 147 = .ok (.bipush 6, 2) := by decide +kernel
theorem dX8_force_149 : decode cX8_force 149 = .ok (.if_icmp .ge 9, 3) := by decide +kernel
theorem dX8_force_152 : decode cX8_force 152 = .ok (.iload_n 3, 1) := by decide +kernel
theorem dX8_force_153 : decode cX8_force 153 = .ok (.iconst 2, 1) := by decide +kernel
theorem dX8_force_154 : decode cX8_force 154 = .ok (.idiv, 1) := by decide +kernel
theorem dX8_force_155 : decode cX8_force 155 = .ok (.goto 4, 3) := by decide +kernel
theorem dX8_force_158 : decode cX8_force 158 = .ok (.iconst 0, 1) := by decide +kernel
theorem dX8_force_159 : decode cX8_force 159 = .ok (.istore 5, 2) := by decide +kernel
theorem dX8_force_161 : decode cX8_force 161 = .ok (.goto 14, 3) := by decide +kernel
theorem dX8_force_164 : decode cX8_force 164 = .ok (.aload_n 0, 1) := by decide +kernel
theorem dX8_force_165 : decode cX8_force 165 = .ok (.iload_n 1, 1) := by decide +kernel
theorem dX8_force_166 : decode cX8_force 166 = .ok (.iload_n 2, 1) := by decide +kernel
theorem dX8_force_167 : decode cX8_force 167 = .ok (.invokevirtual 127, 3) := by decide +kernel
theorem dX8_force_170 : decode cX8_force 170 = .ok (.istore 5, 2) := by decide +kernel
theorem dX8_force_172 : decode cX8_force 172 = .ok (.goto 3, 3) := by decide +kernel
theorem dX8_force_175 : decode cX8_force 175 = .ok (.iload 5, 2) := by decide +kernel
theorem dX8_force_177 : decode cX8_force 177 = .ok (.bipush (-20), 2) := by decide +kernel
theorem dX8_force_179 : decode cX8_force 179 = .ok (.bipush 20, 2) := by decide +kernel
theorem dX8_force_181 : decode cX8_force 181 = .ok (.invokestatic 130, 3) := by decide +kernel
theorem dX8_force_184 : decode cX8_force 184 = .ok (.ireturn, 1) := by decide +kernel
theorem dX8_windTo_0 : decode cX8_windTo 0 = .ok (.aload_n 0, 1) := by decide +kernel
theorem dX8_windTo_1 : decode cX8_windTo 1 = .ok (.getfield 7, 3) := by decide +kernel
theorem dX8_windTo_4 : decode cX8_windTo 4 = .ok (.iconst 2, 1) := by decide +kernel
theorem dX8_windTo_5 : decode cX8_windTo 5 = .ok (.iload_n 1, 1) := by decide +kernel
theorem dX8_windTo_6 : decode cX8_windTo 6 = .ok (.iadd, 1) := by decide +kernel
theorem dX8_windTo_7 : decode cX8_windTo 7 = .ok (.iaload, 1) := by decide +kernel
theorem dX8_windTo_8 : decode cX8_windTo 8 = .ok (.istore_n 2, 1) := by decide +kernel
theorem dX8_windTo_9 : decode cX8_windTo 9 = .ok (.iconst 0, 1) := by decide +kernel
theorem dX8_windTo_10 : decode cX8_windTo 10 = .ok (.istore_n 3, 1) := by decide +kernel
theorem dX8_windTo_11 : decode cX8_windTo 11 = .ok (.iload_n 3, 1) := by decide +kernel
theorem dX8_windTo_12 : decode cX8_windTo 12 = .ok (.iconst 3, 1) := by decide +kernel
theorem dX8_windTo_13 : decode cX8_windTo 13 = .ok (.aload_n 0, 1) := by decide +kernel
theorem dX8_windTo_14 : decode cX8_windTo 14 = .ok (.getfield 7, 3) := by decide +kernel
theorem dX8_windTo_17 : decode cX8_windTo 17 = .ok (.iconst 0, 1) := by decide +kernel
theorem dX8_windTo_18 : decode cX8_windTo 18 = .ok (.iaload, 1) := by decide +kernel
theorem dX8_windTo_19 : decode cX8_windTo 19 = .ok (.imul, 1) := by decide +kernel
theorem dX8_windTo_20 : decode cX8_windTo 20 = .ok (.if_icmp .ge 64, 3) := by decide +kernel
theorem dX8_windTo_23 : decode cX8_windTo 23 = .ok (.aload_n 0, 1) := by decide +kernel
theorem dX8_windTo_24 : decode cX8_windTo 24 = .ok (.iload_n 3, 1) := by decide +kernel
theorem dX8_windTo_25 : decode cX8_windTo 25 = .ok (.iconst 2, 1) := by decide +kernel
theorem dX8_windTo_26 : decode cX8_windTo 26 = .ok (.invokevirtual 58, 3) := by decide +kernel
theorem dX8_windTo_29 : decode cX8_windTo 29 = .ok (.istore 4, 2) := by decide +kernel
theorem dX8_windTo_31 : decode cX8_windTo 31 = .ok (.iload 4, 2) := by decide +kernel
theorem dX8_windTo_33 : decode cX8_windTo 33 = .ok (.iconst 1, 1) := by decide +kernel
theorem dX8_windTo_34 : decode cX8_windTo 34 = .ok (.if_icmp .eq 9, 3) := by decide +kernel
theorem dX8_windTo_37 : decode cX8_windTo 37 = .ok (.iload 4, 2) := by decide +kernel
theorem dX8_windTo_39 : decode cX8_windTo 39 = .ok (.iconst 2, 1) := by decide +kernel
theorem dX8_windTo_40 : decode cX8_windTo 40 = .ok (.if_icmp .ne 11, 3) := by decide +kernel
theorem dX8_windTo_43 : decode cX8_windTo 43 = .ok (.aload_n 0, 1) := by decide +kernel
theorem dX8_windTo_44 : decode cX8_windTo 44 = .ok (.iload_n 3, 1) := by decide +kernel
theorem dX8_windTo_45 : decode cX8_windTo 45 = .ok (.invokevirtual 133, 3) := by decide +kernel
theorem dX8_windTo_48 : decode cX8_windTo 48 = .ok (.goto 9, 3) := by decide +kernel
theorem dX8_windTo_51 : decode cX8_windTo 51 = .ok (.aload_n 0, 1) := by decide +kernel
theorem dX8_windTo_52 : decode cX8_windTo 52 = .ok (.iload_n 3, 1) := by decide +kernel
theorem dX8_windTo_53 : decode cX8_windTo 53 = .ok (.invokevirtual 133, 3) := by decide +kernel
theorem dX8_windTo_56 : decode cX8_windTo 56 = .ok (.ineg, 1) := by decide +kernel
theorem dX8_windTo_57 : decode cX8_windTo 57 = .ok (.istore 5, 2) := by decide +kernel
theorem dX8_windTo_59 : decode cX8_windTo 59 = .ok (.iload_n 2, 1) := by decide +kernel
theorem dX8_windTo_60 : decode cX8_windTo 60 = .ok (.iload 4, 2) := by decide +kernel
theorem dX8_windTo_62 : decode cX8_windTo 62 = .ok (.iconst 2, 1) := by decide +kernel
theorem dX8_windTo_63 : decode cX8_windTo 63 = .ok (.irem, 1) := by decide +kernel
theorem dX8_windTo_64 : decode cX8_windTo 64 = .ok (.iconst 1, 1) := by decide +kernel
theorem dX8_windTo_65 : decode cX8_windTo 65 = .ok (.iload_n 1, 1) := by decide +kernel
theorem dX8_windTo_66 : decode cX8_windTo 66 = .ok (.isub, 1) := by decide +kernel
theorem dX8_windTo_67 : decode cX8_windTo 67 = .ok (.if_icmp .ne 8, 3) := by decide +kernel
theorem dX8_windTo_70 : decode cX8_windTo 70 = .ok (.iload 5, 2) := by decide +kernel
theorem dX8_windTo_72 : decode cX8_windTo 72 = .ok (.goto 4, 3) := by decide +kernel
theorem dX8_windTo_75 : decode cX8_windTo 75 = .ok (.iconst 0, 1) := by decide +kernel
theorem dX8_windTo_76 : decode cX8_windTo 76 = .ok (.iadd, 1) := by decide +kernel
theorem dX8_windTo_77 : decode cX8_windTo 77 = .ok (.istore_n 2, 1) := by decide +kernel
theorem dX8_windTo_78 : decode cX8_windTo 78 = .ok (.iinc 3 1, 3) := by decide +kernel
theorem dX8_windTo_81 : decode cX8_windTo 81 = .ok (.goto (-70), 3) := by decide +kernel
theorem dX8_windTo_84 : decode cX8_windTo 84 = .ok (.iload_n 2, 1) := by decide +kernel
theorem dX8_windTo_85 : decode cX8_windTo 85 = .ok (.ireturn, 1) := by decide +kernel
theorem dX8_land_0 : decode cX8_land 0 = .ok (.iload_n 1, 1) := by decide +kernel
theorem dX8_land_1 : decode cX8_land 1 = .ok (.invokestatic 136, 3) := by decide +kernel
theorem dX8_land_4 : decode cX8_land 4 = .ok (.ifCond .eq 24, 3) := by decide +kernel
theorem dX8_land_7 : decode cX8_land 7 = .ok (.iload_n 2, 1) := by decide +kernel
theorem dX8_land_8 : decode cX8_land 8 = .ok (.iconst 0, 1) := by decide +kernel
theorem dX8_land_9 : decode cX8_land 9 = .ok (.iconst 1, 1) := by decide +kernel
theorem dX8_land_10 : decode cX8_land 10 = .ok (.invokestatic 50, 3) := by decide +kernel
theorem dX8_land_13 : decode cX8_land 13 = .ok (.ifCond .eq 15, 3) := by decide +kernel
theorem dX8_land_16 : decode cX8_land 16 = .ok (.aload_n 0, 1) := by decide +kernel
theorem dX8_land_17 : decode cX8_land 17 = .ok (.bipush 8, 2) := by decide +kernel
theorem dX8_land_19 : decode cX8_land 19 = .ok (.iload_n 1, 1) := by decide +kernel
theorem dX8_land_20 : decode cX8_land 20 = .ok (.iadd, 1) := by decide +kernel
theorem dX8_land_21 : decode cX8_land 21 = .ok (.iload_n 2, 1) := by decide +kernel
theorem dX8_land_22 : decode cX8_land 22 = .ok (.invokevirtual 139, 3) := by decide +kernel
theorem dX8_land_25 : decode cX8_land 25 = .ok (.goto 8, 3) := by decide +kernel
theorem dX8_land_28 : decode cX8_land 28 = .ok (.aload_n 0, 1) := by decide +kernel
theorem dX8_land_29 : decode cX8_land 29 = .ok (.iconst 1, 1) := by decide +kernel
theorem dX8_land_30 : decode cX8_land 30 = .ok (.invokevirtual 62, 3) := by decide +kernel
theorem dX8_land_33 : decode cX8_land 33 = .ok (.ireturn, 1) := by decide +kernel
theorem dX8_drift_0 : decode cX8_drift 0 = .ok (.iload_n 1, 1) := by decide +kernel
theorem dX8_drift_1 : decode cX8_drift 1 = .ok (.iconst 0, 1) := by decide +kernel
theorem dX8_drift_2 : decode cX8_drift 2 = .ok (.iconst 1, 1) := by decide +kernel
theorem dX8_drift_3 : decode cX8_drift 3 = .ok (.invokestatic 50, 3) := by decide +kernel
theorem dX8_drift_6 : decode cX8_drift 6 = .ok (.ifCond .eq 25, 3) := by decide +kernel
theorem dX8_drift_9 : decode cX8_drift 9 = .ok (.iload_n 2, 1) := by decide +kernel
theorem dX8_drift_10 : decode cX8_drift 10 = .ok (.bipush (-9), 2) := by decide +kernel
theorem dX8_drift_12 : decode cX8_drift 12 = .ok (.bipush 9, 2) := by decide +kernel
theorem dX8_drift_14 : decode cX8_drift 14 = .ok (.invokestatic 50, 3) := by decide +kernel
theorem dX8_drift_17 : decode cX8_drift 17 = .ok (.ifCond .eq 14, 3) := by decide +kernel
theorem dX8_drift_20 : decode cX8_drift 20 = .ok (.aload_n 0, 1) := by decide +kernel
theorem dX8_drift_21 : decode cX8_drift 21 = .ok (.iconst 2, 1) := by decide +kernel
theorem dX8_drift_22 : decode cX8_drift 22 = .ok (.iload_n 1, 1) := by decide +kernel
theorem dX8_drift_23 : decode cX8_drift 23 = .ok (.iadd, 1) := by decide +kernel
theorem dX8_drift_24 : decode cX8_drift 24 = .ok (.iload_n 2, 1) := by decide +kernel
theorem dX8_drift_25 : decode cX8_drift 25 = .ok (.invokevirtual 139, 3) := by decide +kernel
theorem dX8_drift_28 : decode cX8_drift 28 = .ok (.goto 8, 3) := by decide +kernel
theorem dX8_drift_31 : decode cX8_drift 31 = .ok (.aload_n 0, 1) := by decide +kernel
theorem dX8_drift_32 : decode cX8_drift 32 = .ok (.iconst 1, 1) := by decide +kernel
theorem dX8_drift_33 : decode cX8_drift 33 = .ok (.invokevirtual 62, 3) := by decide +kernel
theorem dX8_drift_36 : decode cX8_drift 36 = .ok (.ireturn, 1) := by decide +kernel
theorem dX8_brings_0 : decode cX8_brings 0 = .ok (.aload_n 0, 1) := by decide +kernel
theorem dX8_brings_1 : decode cX8_brings 1 = .ok (.iload_n 1, 1) := by decide +kernel
theorem dX8_brings_2 : decode cX8_brings 2 = .ok (.iconst 0, 1) := by decide +kernel
theorem dX8_brings_3 : decode cX8_brings 3 = .ok (.iload_n 2, 1) := by decide +kernel
theorem dX8_brings_4 : decode cX8_brings 4 = .ok (.invokevirtual 142, 3) := by decide +kernel
theorem dX8_brings_7 : decode cX8_brings 7 = .ok (.aload_n 0, 1) := by decide +kernel
theorem dX8_brings_8 : decode cX8_brings 8 = .ok (.iload_n 1, 1) := by decide +kernel
theorem dX8_brings_9 : decode cX8_brings 9 = .ok (.iconst 2, 1) := by decide +kernel
theorem dX8_brings_10 : decode cX8_brings 10 = .ok (.iload_n 2, 1) := by decide +kernel
theorem dX8_brings_11 : decode cX8_brings 11 = .ok (.aload_n 0, 1) := by decide +kernel
theorem dX8_brings_12 : decode cX8_brings 12 = .ok (.iload_n 1, 1) := by decide +kernel
theorem dX8_brings_13 : decode cX8_brings 13 = .ok (.iconst 1, 1) := by decide +kernel
theorem dX8_brings_14 : decode cX8_brings 14 = .ok (.invokevirtual 146, 3) := by decide +kernel
theorem dX8_brings_17 : decode cX8_brings 17 = .ok (.if_icmp .ne 7, 3) := by decide +kernel
theorem dX8_brings_20 : decode cX8_brings 20 = .ok (.iconst 2, 1) := by decide +kernel
theorem dX8_brings_21 : decode cX8_brings 21 = .ok (.goto 4, 3) := by decide +kernel
theorem dX8_brings_24 : decode cX8_brings 24 = .ok (.iconst 0, 1) := by decide +kernel
theorem dX8_brings_25 : decode cX8_brings 25 = .ok (.invokevirtual 142, 3) := by decide +kernel
theorem dX8_brings_28 : decode cX8_brings 28 = .ok (.return_, 1) := by decide +kernel
theorem dX8_ship_0 : decode cX8_ship 0 = .ok (.iload_n 1, 1) := by decide +kernel
theorem dX8_ship_1 : decode cX8_ship 1 = .ok (.invokestatic 136, 3) := by decide +kernel
theorem dX8_ship_4 : decode cX8_ship 4 = .ok (.ifCond .eq 10, 3) := by decide +kernel
theorem dX8_ship_7 : decode cX8_ship 7 = .ok (.iload_n 2, 1) := by decide +kernel
theorem dX8_ship_8 : decode cX8_ship 8 = .ok (.invokestatic 136, 3) := by decide +kernel
theorem dX8_ship_11 : decode cX8_ship 11 = .ok (.ifCond .ne 9, 3) := by decide +kernel
theorem dX8_ship_14 : decode cX8_ship 14 = .ok (.aload_n 0, 1) := by decide +kernel
theorem dX8_ship_15 : decode cX8_ship 15 = .ok (.iconst 1, 1) := by decide +kernel
theorem dX8_ship_16 : decode cX8_ship 16 = .ok (.invokevirtual 62, 3) := by decide +kernel
theorem dX8_ship_19 : decode cX8_ship 19 = .ok (.ireturn, 1) := by decide +kernel
theorem dX8_ship_20 : decode cX8_ship 20 = .ok (.aload_n 0, 1) := by decide +kernel
theorem dX8_ship_21 : decode cX8_ship 21 = .ok (.getfield 7, 3) := by decide +kernel
theorem dX8_ship_24 : decode cX8_ship 24 = .ok (.iconst 0, 1) := by decide +kernel
theorem dX8_ship_25 : decode cX8_ship 25 = .ok (.iaload, 1) := by decide +kernel
theorem dX8_ship_26 : decode cX8_ship 26 = .ok (.iconst 5, 1) := by decide +kernel
theorem dX8_ship_27 : decode cX8_ship 27 = .ok (.if_icmp .ne 9, 3) := by decide +kernel
theorem dX8_ship_30 : decode cX8_ship 30 = .ok (.aload_n 0, 1) := by decide +kernel
theorem dX8_ship_31 : decode cX8_ship 31 = .ok (.iconst 4, 1) := by decide +kernel
theorem dX8_ship_32 : decode cX8_ship 32 = .ok (.invokevirtual 62, 3) := by decide +kernel
theorem dX8_ship_35 : decode cX8_ship 35 = .ok (.ireturn, 1) := by decide +kernel
theorem dX8_ship_36 : decode cX8_ship 36 = .ok (.aload_n 0, 1) := by decide +kernel
theorem dX8_ship_37 : decode cX8_ship 37 = .ok (.getfield 7, 3) := by decide +kernel
theorem dX8_ship_40 : decode cX8_ship 40 = .ok (.iconst 0, 1) := by decide +kernel
theorem dX8_ship_41 : decode cX8_ship 41 = .ok (.iaload, 1) := by decide +kernel
theorem dX8_ship_42 : decode cX8_ship 42 = .ok (.istore_n 3, 1) := by decide +kernel
theorem dX8_ship_43 : decode cX8_ship 43 = .ok (.aload_n 0, 1) := by decide +kernel
theorem dX8_ship_44 : decode cX8_ship 44 = .ok (.iload_n 3, 1) := by decide +kernel
theorem dX8_ship_45 : decode cX8_ship 45 = .ok (.iconst 1, 1) := by decide +kernel
theorem dX8_ship_46 : decode cX8_ship 46 = .ok (.iload_n 2, 1) := by decide +kernel
theorem dX8_ship_47 : decode cX8_ship 47 = .ok (.invokevirtual 142, 3) := by decide +kernel
theorem dX8_ship_50 : decode cX8_ship 50 = .ok (.aload_n 0, 1) := by decide +kernel
theorem dX8_ship_51 : decode cX8_ship 51 = .ok (.iload_n 3, 1) := by decide +kernel
theorem dX8_ship_52 : decode cX8_ship 52 = .ok (.iload_n 1, 1) := by decide +kernel
theorem dX8_ship_53 : decode cX8_ship 53 = .ok (.invokevirtual 149, 3) := by decide +kernel
theorem dX8_ship_56 : decode cX8_ship 56 = .ok (.iconst 3, 1) := by decide +kernel
theorem dX8_ship_57 : decode cX8_ship 57 = .ok (.iload_n 3, 1) := by decide +kernel
theorem dX8_ship_58 : decode cX8_ship 58 = .ok (.imul, 1) := by decide +kernel
theorem dX8_ship_59 : decode cX8_ship 59 = .ok (.istore 4, 2) := by decide +kernel
theorem dX8_ship_61 : decode cX8_ship 61 = .ok (.iload 4, 2) := by decide +kernel
theorem dX8_ship_63 : decode cX8_ship 63 = .ok (.iconst 3, 1) := by decide +kernel
theorem dX8_ship_64 : decode cX8_ship 64 = .ok (.iload_n 3, 1) := by decide +kernel
theorem dX8_ship_65 : decode cX8_ship 65 = .ok (.imul, 1) := by decide +kernel
theorem dX8_ship_66 : decode cX8_ship 66 = .ok (.iconst 3, 1) := by decide +kernel
theorem dX8_ship_67 : decode cX8_ship 67 = .ok (.iadd, 1) := by decide +kernel
theorem dX8_ship_68 : decode cX8_ship 68 = .ok (.if_icmp .ge 17, 3) := by decide +kernel
theorem dX8_ship_71 : decode cX8_ship 71 = .ok (.aload_n 0, 1) := by decide +kernel
theorem dX8_ship_72 : decode cX8_ship 72 = .ok (.iload 4, 2) := by decide +kernel
theorem dX8_ship_74 : decode cX8_ship 74 = .ok (.iconst 0, 1) := by decide +kernel
theorem dX8_ship_75 : decode cX8_ship 75 = .ok (.iconst 0, 1) := by decide +kernel
theorem dX8_ship_76 : decode cX8_ship 76 = .ok (.invokevirtual 152, 3) := by decide +kernel
theorem dX8_ship_79 : decode cX8_ship 79 = .ok (.iinc 4 1, 3) := by decide +kernel
theorem dX8_ship_82 : decode cX8_ship 82 = .ok (.goto (-21), 3) := by decide +kernel
theorem dX8_ship_85 : decode cX8_ship 85 = .ok (.aload_n 0, 1) := by decide +kernel
theorem dX8_ship_86 : decode cX8_ship 86 = .ok (.getfield 7, 3) := by decide +kernel
theorem dX8_ship_89 : decode cX8_ship 89 = .ok (.iconst 0, 1) := by decide +kernel
theorem dX8_ship_90 : decode cX8_ship 90 = .ok (.dup2, 1) := by decide +kernel
theorem dX8_ship_91 : decode cX8_ship 91 = .ok (.iaload, 1) := by decide +kernel
theorem dX8_ship_92 : decode cX8_ship 92 = .ok (.iconst 1, 1) := by decide +kernel
theorem dX8_ship_93 : decode cX8_ship 93 = .ok (.iadd, 1) := by decide +kernel
theorem dX8_ship_94 : decode cX8_ship 94 = .ok (.iastore, 1) := by decide +kernel
theorem dX8_ship_95 : decode cX8_ship 95 = .ok (.iload_n 3, 1) := by decide +kernel
theorem dX8_ship_96 : decode cX8_ship 96 = .ok (.ireturn, 1) := by decide +kernel
theorem dX8_ties_0 : decode cX8_ties 0 = .ok (.aload_n 0, 1) := by decide +kernel
theorem dX8_ties_1 : decode cX8_ties 1 = .ok (.getfield 7, 3) := by decide +kernel
theorem dX8_ties_4 : decode cX8_ties 4 = .ok (.bipush 87, 2) := by decide +kernel
theorem dX8_ties_6 : decode cX8_ties 6 = .ok (.iconst 4, 1) := by decide +kernel
theorem dX8_ties_7 : decode cX8_ties 7 = .ok (.iload_n 1, 1) := by decide +kernel
theorem dX8_ties_8 : decode cX8_ties 8 = .ok (.imul, 1) := by decide +kernel
theorem dX8_ties_9 : decode cX8_ties 9 = .ok (.iadd, 1) := by decide +kernel
theorem dX8_ties_10 : decode cX8_ties 10 = .ok (.iconst 0, 1) := by decide +kernel
theorem dX8_ties_11 : decode cX8_ties 11 = .ok (.iadd, 1) := by decide +kernel
theorem dX8_ties_12 : decode cX8_ties 12 = .ok (.iload_n 2, 1) := by decide +kernel
theorem dX8_ties_13 : decode cX8_ties 13 = .ok (.bipush 10, 2) := by decide +kernel
theorem dX8_ties_15 : decode cX8_ties 15 = .ok (.idiv, 1) := by decide +kernel
theorem dX8_ties_16 : decode cX8_ties 16 = .ok (.iastore, 1) := by decide +kernel
theorem dX8_ties_17 : decode cX8_ties 17 = .ok (.aload_n 0, 1) := by decide +kernel
theorem dX8_ties_18 : decode cX8_ties 18 = .ok (.getfield 7, 3) := by decide +kernel
theorem dX8_ties_21 : decode cX8_ties 21 = .ok (.bipush 87, 2) := by decide +kernel
theorem dX8_ties_23 : decode cX8_ties 23 = .ok (.iconst 4, 1) := by decide +kernel
theorem dX8_ties_24 : decode cX8_ties 24 = .ok (.iload_n 1, 1) := by decide +kernel
theorem dX8_ties_25 : decode cX8_ties 25 = .ok (.imul, 1) := by decide +kernel
theorem dX8_ties_26 : decode cX8_ties 26 = .ok (.iadd, 1) := by decide +kernel
theorem dX8_ties_27 : decode cX8_ties 27 = .ok (.iconst 1, 1) := by decide +kernel
theorem dX8_ties_28 : decode cX8_ties 28 = .ok (.iadd, 1) := by decide +kernel
theorem dX8_ties_29 : decode cX8_ties 29 = .ok (.iload_n 2, 1) := by decide +kernel
theorem dX8_ties_30 : decode cX8_ties 30 = .ok (.bipush 10, 2) := by decide +kernel
theorem dX8_ties_32 : decode cX8_ties 32 = .ok (.irem, 1) := by decide +kernel
theorem dX8_ties_33 : decode cX8_ties 33 = .ok (.iastore, 1) := by decide +kernel
theorem dX8_ties_34 : decode cX8_ties 34 = .ok (.aload_n 0, 1) := by decide +kernel
theorem dX8_ties_35 : decode cX8_ties 35 = .ok (.getfield 7, 3) := by decide +kernel
theorem dX8_ties_38 : decode cX8_ties 38 = .ok (.bipush 87, 2) := by decide +kernel
theorem dX8_ties_40 : decode cX8_ties 40 = .ok (.iconst 4, 1) := by decide +kernel
theorem dX8_ties_41 : decode cX8_ties 41 = .ok (.iload_n 1, 1) := by decide +kernel
theorem dX8_ties_42 : decode cX8_ties 42 = .ok (.imul, 1) := by decide +kernel
theorem dX8_ties_43 : decode cX8_ties 43 = .ok (.iadd, 1) := by decide +kernel
theorem dX8_ties_44 : decode cX8_ties 44 = .ok (.iconst 2, 1) := by decide +kernel
theorem dX8_ties_45 : decode cX8_ties 45 = .ok (.iadd, 1) := by decide +kernel
theorem dX8_ties_46 : decode cX8_ties 46 = .ok (.iload_n 3, 1) := by decide +kernel
theorem dX8_ties_47 : decode cX8_ties 47 = .ok (.iastore, 1) := by decide +kernel
theorem dX8_ties_48 : decode cX8_ties 48 = .ok (.aload_n 0, 1) := by decide +kernel
theorem dX8_ties_49 : decode cX8_ties 49 = .ok (.getfield 7, 3) := by decide +kernel
theorem dX8_ties_52 : decode cX8_ties 52 = .ok (.bipush 87, 2) := by decide +kernel
theorem dX8_ties_54 : decode cX8_ties 54 = .ok (.iconst 4, 1) := by decide +kernel
theorem dX8_ties_55 : decode cX8_ties 55 = .ok (.iload_n 1, 1) := by decide +kernel
theorem dX8_ties_56 : decode cX8_ties 56 = .ok (.imul, 1) := by decide +kernel
theorem dX8_ties_57 : decode cX8_ties 57 = .ok (.iadd, 1) := by decide +kernel
theorem dX8_ties_58 : decode cX8_ties 58 = .ok (.iconst 3, 1) := by decide +kernel
theorem dX8_ties_59 : decode cX8_ties 59 = .ok (.iadd, 1) := by decide +kernel
theorem dX8_ties_60 : decode cX8_ties 60 = .ok (.iconst (-1), 1) := by decide +kernel
theorem dX8_ties_61 : decode cX8_ties 61 = .ok (.iastore, 1) := by decide +kernel
theorem dX8_ties_62 : decode cX8_ties 62 = .ok (.return_, 1) := by decide +kernel
theorem dX8_tiedOf_0 : decode cX8_tiedOf 0 = .ok (.iconst 0, 1) := by decide +kernel
theorem dX8_tiedOf_1 : decode cX8_tiedOf 1 = .ok (.istore_n 2, 1) := by decide +kernel
theorem dX8_tiedOf_2 : decode cX8_tiedOf 2 = .ok (.iconst 3, 1) := by decide +kernel
theorem dX8_tiedOf_3 : decode cX8_tiedOf 3 = .ok (.iload_n 1, 1) := by decide +kernel
theorem dX8_tiedOf_4 : decode cX8_tiedOf 4 = .ok (.imul, 1) := by decide +kernel
theorem dX8_tiedOf_5 : decode cX8_tiedOf 5 = .ok (.istore_n 3, 1) := by decide +kernel
theorem dX8_tiedOf_6 : decode cX8_tiedOf 6 = .ok (.iload_n 3, 1) := by decide +kernel
theorem dX8_tiedOf_7 : decode cX8_tiedOf 7 = .ok (.iconst 3, 1) := by decide +kernel
theorem dX8_tiedOf_8 : decode cX8_tiedOf 8 = .ok (.iload_n 1, 1) := by decide +kernel
theorem dX8_tiedOf_9 : decode cX8_tiedOf 9 = .ok (.imul, 1) := by decide +kernel
theorem dX8_tiedOf_10 : decode cX8_tiedOf 10 = .ok (.iconst 3, 1) := by decide +kernel
theorem dX8_tiedOf_11 : decode cX8_tiedOf 11 = .ok (.iadd, 1) := by decide +kernel
theorem dX8_tiedOf_12 : decode cX8_tiedOf 12 = .ok (.if_icmp .ge 25, 3) := by decide +kernel
theorem dX8_tiedOf_15 : decode cX8_tiedOf 15 = .ok (.iload_n 2, 1) := by decide +kernel
theorem dX8_tiedOf_16 : decode cX8_tiedOf 16 = .ok (.aload_n 0, 1) := by decide +kernel
theorem dX8_tiedOf_17 : decode cX8_tiedOf 17 = .ok (.iload_n 3, 1) := by decide +kernel
theorem dX8_tiedOf_18 : decode cX8_tiedOf 18 = .ok (.invokevirtual 124, 3) := by decide +kernel
theorem dX8_tiedOf_21 : decode cX8_tiedOf 21 = .ok (.ifCond .eq 7, 3) := by decide +kernel
theorem dX8_tiedOf_24 : decode cX8_tiedOf 24 = .ok (.iconst 1, 1) := by decide +kernel
theorem dX8_tiedOf_25 : decode cX8_tiedOf 25 = .ok (.goto 4, 3) := by decide +kernel
theorem dX8_tiedOf_28 : decode cX8_tiedOf 28 = .ok (.iconst 0, 1) := by decide +kernel
theorem dX8_tiedOf_29 : decode cX8_tiedOf 29 = .ok (.iadd, 1) := by decide +kernel
theorem dX8_tiedOf_30 : decode cX8_tiedOf 30 = .ok (.istore_n 2, 1) := by decide +kernel
theorem dX8_tiedOf_31 : decode cX8_tiedOf 31 = .ok (.iinc 3 1, 3) := by decide +kernel
theorem dX8_tiedOf_34 : decode cX8_tiedOf 34 = .ok (.goto (-28), 3) := by decide +kernel
theorem dX8_tiedOf_37 : decode cX8_tiedOf 37 = .ok (.iload_n 2, 1) := by decide +kernel
theorem dX8_tiedOf_38 : decode cX8_tiedOf 38 = .ok (.ireturn, 1) := by decide +kernel
theorem dX8_price_0 : decode cX8_price 0 = .ok (.aload_n 0, 1) := by decide +kernel
theorem dX8_price_1 : decode cX8_price 1 = .ok (.iload_n 1, 1) := by decide +kernel
theorem dX8_price_2 : decode cX8_price 2 = .ok (.invokevirtual 124, 3) := by decide +kernel
theorem dX8_price_5 : decode cX8_price 5 = .ok (.ifCond .ne 5, 3) := by decide +kernel
theorem dX8_price_8 : decode cX8_price 8 = .ok (.iconst 0, 1) := by decide +kernel
theorem dX8_price_9 : decode cX8_price 9 = .ok (.ireturn, 1) := by decide +kernel
theorem dX8_price_10 : decode cX8_price 10 = .ok (.aload_n 0, 1) := by decide +kernel
theorem dX8_price_11 : decode cX8_price 11 = .ok (.iload_n 1, 1) := by decide +kernel
theorem dX8_price_12 : decode cX8_price 12 = .ok (.iconst 3, 1) := by decide +kernel
theorem dX8_price_13 : decode cX8_price 13 = .ok (.idiv, 1) := by decide +kernel
theorem dX8_price_14 : decode cX8_price 14 = .ok (.invokevirtual 155, 3) := by decide +kernel
theorem dX8_price_17 : decode cX8_price 17 = .ok (.istore_n 2, 1) := by decide +kernel
theorem dX8_price_18 : decode cX8_price 18 = .ok (.aload_n 0, 1) := by decide +kernel
theorem dX8_price_19 : decode cX8_price 19 = .ok (.iload_n 1, 1) := by decide +kernel
theorem dX8_price_20 : decode cX8_price 20 = .ok (.iconst 1, 1) := by decide +kernel
theorem dX8_price_21 : decode cX8_price 21 = .ok (.invokevirtual 58, 3) := by decide +kernel
theorem dX8_price_24 : decode cX8_price 24 = .ok (.iload_n 2, 1) := by decide +kernel
theorem dX8_price_25 : decode cX8_price 25 = .ok (.imul, 1) := by decide +kernel
theorem dX8_price_26 : decode cX8_price 26 = .ok (.istore_n 3, 1) := by decide +kernel
theorem dX8_price_27 : decode cX8_price 27 = .ok (.aload_n 0, 1) := by decide +kernel
theorem dX8_price_28 : decode cX8_price 28 = .ok (.iconst 1, 1) := by decide +kernel
theorem dX8_price_29 : decode cX8_price 29 = .ok (.invokevirtual 114, 3) := by decide +kernel
theorem dX8_price_32 : decode cX8_price 32 = .ok (.ifCond .eq 43, 3) := by decide +kernel
theorem dX8_price_35 : decode cX8_price 35 = .ok (.aload_n 0, 1) := by decide +kernel
theorem dX8_price_36 : decode cX8_price 36 = .ok (.getfield 28, 3) := by decide +kernel
theorem dX8_price_39 : decode cX8_price 39 = .ok (.bipush 107, 2) := by decide +kernel
theorem dX8_price_41 : decode cX8_price 41 = .ok (.aload_n 0, 1) := by decide +kernel
theorem dX8_price_42 : decode cX8_price 42 = .ok (.iload_n 1, 1) := by decide +kernel
theorem dX8_price_43 : decode cX8_price 43 = .ok (.iconst 0, 1) := by decide +kernel
theorem dX8_price_44 : decode cX8_price 44 = .ok (.invokevirtual 58, 3) := by decide +kernel
theorem dX8_price_47 : decode cX8_price 47 = .ok (.iastore, 1) := by decide +kernel
theorem dX8_price_48 : decode cX8_price 48 = .ok (.aload_n 0, 1) := by decide +kernel
theorem dX8_price_49 : decode cX8_price 49 = .ok (.getfield 28, 3) := by decide +kernel
theorem dX8_price_52 : decode cX8_price 52 = .ok (.bipush 109, 2) := by decide +kernel
theorem dX8_price_54 : decode cX8_price 54 = .ok (.aload_n 0, 1) := by decide +kernel
theorem dX8_price_55 : decode cX8_price 55 = .ok (.iload_n 1, 1) := by decide +kernel
theorem dX8_price_56 : decode cX8_price 56 = .ok (.iconst 1, 1) := by decide +kernel
theorem dX8_price_57 : decode cX8_price 57 = .ok (.invokevirtual 58, 3) := by decide +kernel
theorem dX8_price_60 : decode cX8_price 60 = .ok (.iastore, 1) := by decide +kernel
theorem dX8_price_61 : decode cX8_price 61 = .ok (.aload_n 0, 1) := by decide +kernel
theorem dX8_price_62 : decode cX8_price 62 = .ok (.getfield 28, 3) := by decide +kernel
theorem dX8_price_65 : decode cX8_price 65 = .ok (.bipush 110, 2) := by decide +kernel
theorem dX8_price_67 : decode cX8_price 67 = .ok (.iload_n 2, 1) := by decide +kernel
theorem dX8_price_68 : decode cX8_price 68 = .ok (.iastore, 1) := by decide +kernel
theorem dX8_price_69 : decode cX8_price 69 = .ok (.aload_n 0, 1) := by decide +kernel
theorem dX8_price_70 : decode cX8_price 70 = .ok (.iconst 1, 1) := by decide +kernel
theorem dX8_price_71 : decode cX8_price 71 = .ok (.invokevirtual 121, 3) := by decide +kernel
theorem dX8_price_74 : decode cX8_price 74 = .ok (.istore_n 3, 1) := by decide +kernel
theorem dX8_price_75 : decode cX8_price 75 = .ok (.iload_n 3, 1) := by decide +kernel
theorem dX8_price_76 : decode cX8_price 76 = .ok (.iconst 0, 1) := by decide +kernel
theorem dX8_price_77 : decode cX8_price 77 = .ok (.sipush 999, 3) := by decide +kernel
theorem dX8_price_80 : decode cX8_price 80 = .ok (.invokestatic 130, 3) := by decide +kernel
theorem dX8_price_83 : decode cX8_price 83 = .ok (.ireturn, 1) := by decide +kernel
theorem dX8_toldShip_0 : decode cX8_toldShip 0 = .ok (.iload_n 2, 1) := by decide +kernel
theorem dX8_toldShip_1 : decode cX8_toldShip 1 = .ok (.iconst 3, 1) := by decide +kernel
theorem dX8_toldShip_2 : decode cX8_toldShip 2 = .ok (.if_icmp .ge 10, 3) := by decide +kernel
theorem dX8_toldShip_5 : decode cX8_toldShip 5 = .ok (.aload_n 0, 1) := by decide +kernel
theorem dX8_toldShip_6 : decode cX8_toldShip 6 = .ok (.iload_n 1, 1) := by decide +kernel
theorem dX8_toldShip_7 : decode cX8_toldShip 7 = .ok (.iload_n 2, 1) := by decide +kernel
theorem dX8_toldShip_8 : decode cX8_toldShip 8 = .ok (.invokevirtual 146, 3) := by decide +kernel
theorem dX8_toldShip_11 : decode cX8_toldShip 11 = .ok (.ireturn, 1) := by decide +kernel
theorem dX8_toldShip_12 : decode cX8_toldShip 12 = .ok (.iload_n 2, 1) := by decide +kernel
theorem dX8_toldShip_13 : decode cX8_toldShip 13 = .ok (.iconst 3, 1) := by decide +kernel
theorem dX8_toldShip_14 : decode cX8_toldShip 14 = .ok (.if_icmp .ne 11, 3) := by decide +kernel
theorem dX8_toldShip_17 : decode cX8_toldShip 17 = .ok (.aload_n 0, 1) := by decide +kernel
theorem dX8_toldShip_18 : decode cX8_toldShip 18 = .ok (.iload_n 1, 1) := by decide +kernel
theorem dX8_toldShip_19 : decode cX8_toldShip 19 = .ok (.invokevirtual 155, 3) := by decide +kernel
theorem dX8_toldShip_22 : decode cX8_toldShip 22 = .ok (.goto 30, 3) := by decide +kernel
theorem dX8_toldShip_25 : decode cX8_toldShip 25 = .ok (.aload_n 0, 1) := by decide +kernel
theorem dX8_toldShip_26 : decode cX8_toldShip 26 = .ok (.iconst 3, 1) := by decide +kernel
theorem dX8_toldShip_27 : decode cX8_toldShip 27 = .ok (.iload_n 1, 1) := by decide +kernel
theorem dX8_toldShip_28 : decode cX8_toldShip 28 = .ok (.imul, 1) := by decide +kernel
theorem dX8_toldShip_29 : decode cX8_toldShip 29 = .ok (.invokevirtual 158, 3) := by decide +kernel
theorem dX8_toldShip_32 : decode cX8_toldShip 32 = .ok (.aload_n 0, 1) := by decide +kernel
theorem dX8_toldShip_33 : decode cX8_toldShip 33 = .ok (.iconst 3, 1) := by decide +kernel
theorem dX8_toldShip_34 : decode cX8_toldShip 34 = .ok (.iload_n 1, 1) := by decide +kernel
theorem dX8_toldShip_35 : decode cX8_toldShip 35 = .ok (.imul, 1) := by decide +kernel
theorem dX8_toldShip_36 : decode cX8_toldShip 36 = .ok (.iconst 1, 1) := by decide +kernel
theorem dX8_toldShip_37 : decode cX8_toldShip 37 = .ok (.iadd, 1) := by decide +kernel
theorem dX8_toldShip_38 : decode cX8_toldShip 38 = .ok (.invokevirtual 158, 3) := by decide +kernel
theorem dX8_toldShip_41 : decode cX8_toldShip 41 = .ok (.iadd, 1) := by decide +kernel
theorem dX8_toldShip_42 : decode cX8_toldShip 42 = .ok (.aload_n 0, 1) := by decide +kernel
theorem dX8_toldShip_43 : decode cX8_toldShip 43 = .ok (.iconst 3, 1) := by decide +kernel
theorem dX8_toldShip_44 : decode cX8_toldShip 44 = .ok (.iload_n 1, 1) := by decide +kernel
theorem dX8_toldShip_45 : decode cX8_toldShip 45 = .ok (.imul, 1) := by decide +kernel
theorem dX8_toldShip_46 : decode cX8_toldShip 46 = .ok (.iconst 2, 1) := by decide +kernel
theorem dX8_toldShip_47 : decode cX8_toldShip 47 = .ok (.iadd, 1) := by decide +kernel
theorem dX8_toldShip_48 : decode cX8_toldShip 48 = .ok (.invokevirtual 158, 3) := by decide +kernel
theorem dX8_toldShip_51 : decode cX8_toldShip 51 = .ok (.iadd, 1) := by decide +kernel
theorem dX8_toldShip_52 : decode cX8_toldShip 52 = .ok (.ireturn, 1) := by decide +kernel
theorem dX8_shipIs_0 : decode cX8_shipIs 0 = .ok (.aload_n 0, 1) := by decide +kernel
theorem dX8_shipIs_1 : decode cX8_shipIs 1 = .ok (.iload_n 1, 1) := by decide +kernel
theorem dX8_shipIs_2 : decode cX8_shipIs 2 = .ok (.invokevirtual 54, 3) := by decide +kernel
theorem dX8_shipIs_5 : decode cX8_shipIs 5 = .ok (.ifCond .eq 21, 3) := by decide +kernel
theorem dX8_shipIs_8 : decode cX8_shipIs 8 = .ok (.iload_n 2, 1) := by decide +kernel
theorem dX8_shipIs_9 : decode cX8_shipIs 9 = .ok (.iconst 0, 1) := by decide +kernel
theorem dX8_shipIs_10 : decode cX8_shipIs 10 = .ok (.iconst 4, 1) := by decide +kernel
theorem dX8_shipIs_11 : decode cX8_shipIs 11 = .ok (.invokestatic 50, 3) := by decide +kernel
theorem dX8_shipIs_14 : decode cX8_shipIs 14 = .ok (.ifCond .eq 12, 3) := by decide +kernel
theorem dX8_shipIs_17 : decode cX8_shipIs 17 = .ok (.aload_n 0, 1) := by decide +kernel
theorem dX8_shipIs_18 : decode cX8_shipIs 18 = .ok (.iload_n 1, 1) := by decide +kernel
theorem dX8_shipIs_19 : decode cX8_shipIs 19 = .ok (.iload_n 2, 1) := by decide +kernel
theorem dX8_shipIs_20 : decode cX8_shipIs 20 = .ok (.invokevirtual 161, 3) := by decide +kernel
theorem dX8_shipIs_23 : decode cX8_shipIs 23 = .ok (.goto 8, 3) := by decide +kernel
theorem dX8_shipIs_26 : decode cX8_shipIs 26 = .ok (.aload_n 0, 1) := by decide +kernel
theorem dX8_shipIs_27 : decode cX8_shipIs 27 = .ok (.iconst 1, 1) := by decide +kernel
theorem dX8_shipIs_28 : decode cX8_shipIs 28 = .ok (.invokevirtual 62, 3) := by decide +kernel
theorem dX8_shipIs_31 : decode cX8_shipIs 31 = .ok (.ireturn, 1) := by decide +kernel
theorem dX8_bring_0 : decode cX8_bring 0 = .ok (.aload_n 0, 1) := by decide +kernel
theorem dX8_bring_1 : decode cX8_bring 1 = .ok (.iload_n 1, 1) := by decide +kernel
theorem dX8_bring_2 : decode cX8_bring 2 = .ok (.invokevirtual 54, 3) := by decide +kernel
theorem dX8_bring_5 : decode cX8_bring 5 = .ok (.ifCond .eq 10, 3) := by decide +kernel
theorem dX8_bring_8 : decode cX8_bring 8 = .ok (.iload_n 2, 1) := by decide +kernel
theorem dX8_bring_9 : decode cX8_bring 9 = .ok (.invokestatic 136, 3) := by decide +kernel
theorem dX8_bring_12 : decode cX8_bring 12 = .ok (.ifCond .ne 9, 3) := by decide +kernel
theorem dX8_bring_15 : decode cX8_bring 15 = .ok (.aload_n 0, 1) := by decide +kernel
theorem dX8_bring_16 : decode cX8_bring 16 = .ok (.iconst 1, 1) := by decide +kernel
theorem dX8_bring_17 : decode cX8_bring 17 = .ok (.invokevirtual 62, 3) := by decide +kernel
theorem dX8_bring_20 : decode cX8_bring 20 = .ok (.ireturn, 1) := by decide +kernel
theorem dX8_bring_21 : decode cX8_bring 21 = .ok (.aload_n 0, 1) := by decide +kernel
theorem dX8_bring_22 : decode cX8_bring 22 = .ok (.iload_n 1, 1) := by decide +kernel
theorem dX8_bring_23 : decode cX8_bring 23 = .ok (.iconst 0, 1) := by decide +kernel
theorem dX8_bring_24 : decode cX8_bring 24 = .ok (.invokevirtual 146, 3) := by decide +kernel
theorem dX8_bring_27 : decode cX8_bring 27 = .ok (.istore_n 3, 1) := by decide +kernel
theorem dX8_bring_28 : decode cX8_bring 28 = .ok (.aload_n 0, 1) := by decide +kernel
theorem dX8_bring_29 : decode cX8_bring 29 = .ok (.iload_n 1, 1) := by decide +kernel
theorem dX8_bring_30 : decode cX8_bring 30 = .ok (.iload_n 2, 1) := by decide +kernel
theorem dX8_bring_31 : decode cX8_bring 31 = .ok (.invokevirtual 149, 3) := by decide +kernel
theorem dX8_bring_34 : decode cX8_bring 34 = .ok (.iload_n 3, 1) := by decide +kernel
theorem dX8_bring_35 : decode cX8_bring 35 = .ok (.ireturn, 1) := by decide +kernel
theorem dX8_tie_0 : decode cX8_tie 0 = .ok (.aload_n 0, 1) := by decide +kernel
theorem dX8_tie_1 : decode cX8_tie 1 = .ok (.iload_n 1, 1) := by decide +kernel
theorem dX8_tie_2 : decode cX8_tie 2 = .ok (.iload_n 2, 1) := by decide +kernel
theorem dX8_tie_3 : decode cX8_tie 3 = .ok (.invokevirtual 164, 3) := by decide +kernel
theorem dX8_tie_6 : decode cX8_tie 6 = .ok (.ifCond .eq 23, 3) := by decide +kernel
theorem dX8_tie_9 : decode cX8_tie 9 = .ok (.iload_n 3, 1) := by decide +kernel
theorem dX8_tie_10 : decode cX8_tie 10 = .ok (.iconst 0, 1) := by decide +kernel
theorem dX8_tie_11 : decode cX8_tie 11 = .ok (.bipush 69, 2) := by decide +kernel
theorem dX8_tie_13 : decode cX8_tie 13 = .ok (.invokestatic 50, 3) := by decide +kernel
theorem dX8_tie_16 : decode cX8_tie 16 = .ok (.ifCond .eq 13, 3) := by decide +kernel
theorem dX8_tie_19 : decode cX8_tie 19 = .ok (.iload 4, 2) := by decide +kernel
theorem dX8_tie_21 : decode cX8_tie 21 = .ok (.iconst 0, 1) := by decide +kernel
theorem dX8_tie_22 : decode cX8_tie 22 = .ok (.iconst 3, 1) := by decide +kernel
theorem dX8_tie_23 : decode cX8_tie 23 = .ok (.invokestatic 50, 3) := by decide +kernel
theorem dX8_tie_26 : decode cX8_tie 26 = .ok (.ifCond .ne 9, 3) := by decide +kernel
theorem dX8_tie_29 : decode cX8_tie 29 = .ok (.aload_n 0, 1) := by decide +kernel
theorem dX8_tie_30 : decode cX8_tie 30 = .ok (.iconst 1, 1) := by decide +kernel
theorem dX8_tie_31 : decode cX8_tie 31 = .ok (.invokevirtual 62, 3) := by decide +kernel
theorem dX8_tie_34 : decode cX8_tie 34 = .ok (.ireturn, 1) := by decide +kernel
theorem dX8_tie_35 : decode cX8_tie 35 = .ok (.iconst 3, 1) := by decide +kernel
theorem dX8_tie_36 : decode cX8_tie 36 = .ok (.iload_n 1, 1) := by decide +kernel
theorem dX8_tie_37 : decode cX8_tie 37 = .ok (.imul, 1) := by decide +kernel
theorem dX8_tie_38 : decode cX8_tie 38 = .ok (.iload_n 2, 1) := by decide +kernel
theorem dX8_tie_39 : decode cX8_tie 39 = .ok (.iadd, 1) := by decide +kernel
theorem dX8_tie_40 : decode cX8_tie 40 = .ok (.istore 5, 2) := by decide +kernel
theorem dX8_tie_42 : decode cX8_tie 42 = .ok (.bipush 100, 2) := by decide +kernel
theorem dX8_tie_44 : decode cX8_tie 44 = .ok (.aload_n 0, 1) := by decide +kernel
theorem dX8_tie_45 : decode cX8_tie 45 = .ok (.iload 5, 2) := by decide +kernel
theorem dX8_tie_47 : decode cX8_tie 47 = .ok (.iconst 2, 1) := by decide +kernel
theorem dX8_tie_48 : decode cX8_tie 48 = .ok (.invokevirtual 58, 3) := by decide +kernel
theorem dX8_tie_51 : decode cX8_tie 51 = .ok (.imul, 1) := by decide +kernel
theorem dX8_tie_52 : decode cX8_tie 52 = .ok (.bipush 10, 2) := by decide +kernel
theorem dX8_tie_54 : decode cX8_tie 54 = .ok (.aload_n 0, 1) := by decide +kernel
theorem dX8_tie_55 : decode cX8_tie 55 = .ok (.iload 5, 2) := by decide +kernel
theorem dX8_tie_57 : decode cX8_tie 57 = .ok (.iconst 0, 1) := by decide +kernel
theorem dX8_tie_58 : decode cX8_tie 58 = .ok (.invokevirtual 58, 3) := by decide +kernel
theorem dX8_tie_61 : decode cX8_tie 61 = .ok (.imul, 1) := by decide +kernel
theorem dX8_tie_62 : decode cX8_tie 62 = .ok (.iadd, 1) := by decide +kernel
theorem dX8_tie_63 : decode cX8_tie 63 = .ok (.aload_n 0, 1) := by decide +kernel
theorem dX8_tie_64 : decode cX8_tie 64 = .ok (.iload 5, 2) := by decide +kernel
theorem dX8_tie_66 : decode cX8_tie 66 = .ok (.iconst 1, 1) := by decide +kernel
theorem dX8_tie_67 : decode cX8_tie 67 = .ok (.invokevirtual 58, 3) := by decide +kernel
theorem dX8_tie_70 : decode cX8_tie 70 = .ok (.iadd, 1) := by decide +kernel
theorem dX8_tie_71 : decode cX8_tie 71 = .ok (.istore 6, 2) := by decide +kernel
theorem dX8_tie_73 : decode cX8_tie 73 = .ok (.aload_n 0, 1) := by decide +kernel
theorem dX8_tie_74 : decode cX8_tie 74 = .ok (.iload 5, 2) := by decide +kernel
theorem dX8_tie_76 : decode cX8_tie 76 = .ok (.iload_n 3, 1) := by decide +kernel
theorem dX8_tie_77 : decode cX8_tie 77 = .ok (.iload 4, 2) := by decide +kernel
theorem dX8_tie_79 : decode cX8_tie 79 = .ok (.invokevirtual 152, 3) := by decide +kernel
theorem dX8_tie_82 : decode cX8_tie 82 = .ok (.iload 6, 2) := by decide +kernel
theorem dX8_tie_84 : decode cX8_tie 84 = .ok (.ireturn, 1) := by decide +kernel
theorem dX8_knotIs_0 : decode cX8_knotIs 0 = .ok (.aload_n 0, 1) := by decide +kernel
theorem dX8_knotIs_1 : decode cX8_knotIs 1 = .ok (.iload_n 1, 1) := by decide +kernel
theorem dX8_knotIs_2 : decode cX8_knotIs 2 = .ok (.iload_n 2, 1) := by decide +kernel
theorem dX8_knotIs_3 : decode cX8_knotIs 3 = .ok (.invokevirtual 164, 3) := by decide +kernel
theorem dX8_knotIs_6 : decode cX8_knotIs 6 = .ok (.ifCond .eq 12, 3) := by decide +kernel
theorem dX8_knotIs_9 : decode cX8_knotIs 9 = .ok (.iload_n 3, 1) := by decide +kernel
theorem dX8_knotIs_10 : decode cX8_knotIs 10 = .ok (.iconst 0, 1) := by decide +kernel
theorem dX8_knotIs_11 : decode cX8_knotIs 11 = .ok (.iconst 5, 1) := by decide +kernel
theorem dX8_knotIs_12 : decode cX8_knotIs 12 = .ok (.invokestatic 50, 3) := by decide +kernel
theorem dX8_knotIs_15 : decode cX8_knotIs 15 = .ok (.ifCond .ne 9, 3) := by decide +kernel
theorem dX8_knotIs_18 : decode cX8_knotIs 18 = .ok (.aload_n 0, 1) := by decide +kernel
theorem dX8_knotIs_19 : decode cX8_knotIs 19 = .ok (.iconst 1, 1) := by decide +kernel
theorem dX8_knotIs_20 : decode cX8_knotIs 20 = .ok (.invokevirtual 62, 3) := by decide +kernel
theorem dX8_knotIs_23 : decode cX8_knotIs 23 = .ok (.ireturn, 1) := by decide +kernel
theorem dX8_knotIs_24 : decode cX8_knotIs 24 = .ok (.iconst 3, 1) := by decide +kernel
theorem dX8_knotIs_25 : decode cX8_knotIs 25 = .ok (.iload_n 1, 1) := by decide +kernel
theorem dX8_knotIs_26 : decode cX8_knotIs 26 = .ok (.imul, 1) := by decide +kernel
theorem dX8_knotIs_27 : decode cX8_knotIs 27 = .ok (.iload_n 2, 1) := by decide +kernel
theorem dX8_knotIs_28 : decode cX8_knotIs 28 = .ok (.iadd, 1) := by decide +kernel
theorem dX8_knotIs_29 : decode cX8_knotIs 29 = .ok (.istore 4, 2) := by decide +kernel
theorem dX8_knotIs_31 : decode cX8_knotIs 31 = .ok (.iload_n 3, 1) := by decide +kernel
theorem dX8_knotIs_32 : decode cX8_knotIs 32 = .ok (.iconst 4, 1) := by decide +kernel
theorem dX8_knotIs_33 : decode cX8_knotIs 33 = .ok (.if_icmp .ge 13, 3) := by decide +kernel
theorem dX8_knotIs_36 : decode cX8_knotIs 36 = .ok (.aload_n 0, 1) := by decide +kernel
theorem dX8_knotIs_37 : decode cX8_knotIs 37 = .ok (.iload 4, 2) := by decide +kernel
theorem dX8_knotIs_39 : decode cX8_knotIs 39 = .ok (.iload_n 3, 1) := by decide +kernel
theorem dX8_knotIs_40 : decode cX8_knotIs 40 = .ok (.invokevirtual 58, 3) := by decide +kernel
theorem dX8_knotIs_43 : decode cX8_knotIs 43 = .ok (.goto 23, 3) := by decide +kernel
theorem dX8_knotIs_46 : decode cX8_knotIs 46 = .ok (.iload_n 3, 1) := by decide +kernel
theorem dX8_knotIs_47 : decode cX8_knotIs 47 = .ok (.iconst 4, 1) := by decide +kernel
theorem dX8_knotIs_48 : decode cX8_knotIs 48 = .ok (.if_icmp .ne 12, 3) := by decide +kernel
theorem dX8_knotIs_51 : decode cX8_knotIs 51 = .ok (.aload_n 0, 1) := by decide +kernel
theorem dX8_knotIs_52 : decode cX8_knotIs 52 = .ok (.iload 4, 2) := by decide +kernel
theorem dX8_knotIs_54 : decode cX8_knotIs 54 = .ok (.invokevirtual 133, 3) := by decide +kernel
theorem dX8_knotIs_57 : decode cX8_knotIs 57 = .ok (.goto 9, 3) := by decide +kernel
theorem dX8_knotIs_60 : decode cX8_knotIs 60 = .ok (.aload_n 0, 1) := by decide +kernel
theorem dX8_knotIs_61 : decode cX8_knotIs 61 = .ok (.iload 4, 2) := by decide +kernel
theorem dX8_knotIs_63 : decode cX8_knotIs 63 = .ok (.invokevirtual 158, 3) := by decide +kernel
theorem dX8_knotIs_66 : decode cX8_knotIs 66 = .ok (.ireturn, 1) := by decide +kernel
theorem dX8_isUnder_0 : decode cX8_isUnder 0 = .ok (.iload_n 1, 1) := by decide +kernel
theorem dX8_isUnder_1 : decode cX8_isUnder 1 = .ok (.ifCond .eq 28, 3) := by decide +kernel
theorem dX8_isUnder_4 : decode cX8_isUnder 4 = .ok (.iload_n 0, 1) := by decide +kernel
theorem dX8_isUnder_5 : decode cX8_isUnder 5 = .ok (.iload_n 1, 1) := by decide +kernel
theorem dX8_isUnder_6 : decode cX8_isUnder 6 = .ok (.if_icmp .eq 23, 3) := by decide +kernel
theorem dX8_isUnder_9 : decode cX8_isUnder 9 = .ok (.iload_n 1, 1) := by decide +kernel
theorem dX8_isUnder_10 : decode cX8_isUnder 10 = .ok (.iconst 1, 1) := by decide +kernel
theorem dX8_isUnder_11 : decode cX8_isUnder 11 = .ok (.if_icmp .ne 8, 3) := by decide +kernel
theorem dX8_isUnder_14 : decode cX8_isUnder 14 = .ok (.iload_n 0, 1) := by decide +kernel
theorem dX8_isUnder_15 : decode cX8_isUnder 15 = .ok (.iconst 4, 1) := by decide +kernel
theorem dX8_isUnder_16 : decode cX8_isUnder 16 = .ok (.if_icmp .eq 13, 3) := by decide +kernel
theorem dX8_isUnder_19 : decode cX8_isUnder 19 = .ok (.iload_n 1, 1) := by decide +kernel
theorem dX8_isUnder_20 : decode cX8_isUnder 20 = .ok (.iconst 2, 1) := by decide +kernel
theorem dX8_isUnder_21 : decode cX8_isUnder 21 = .ok (.if_icmp .ne 12, 3) := by decide +kernel
theorem dX8_isUnder_24 : decode cX8_isUnder 24 = .ok (.iload_n 0, 1) := by decide +kernel
theorem dX8_isUnder_25 : decode cX8_isUnder 25 = .ok (.iconst 5, 1) := by decide +kernel
theorem dX8_isUnder_26 : decode cX8_isUnder 26 = .ok (.if_icmp .ne 7, 3) := by decide +kernel
theorem dX8_isUnder_29 : decode cX8_isUnder 29 = .ok (.iconst 1, 1) := by decide +kernel
theorem dX8_isUnder_30 : decode cX8_isUnder 30 = .ok (.goto 4, 3) := by decide +kernel
theorem dX8_isUnder_33 : decode cX8_isUnder 33 = .ok (.iconst 0, 1) := by decide +kernel
theorem dX8_isUnder_34 : decode cX8_isUnder 34 = .ok (.ireturn, 1) := by decide +kernel
theorem dX8_as_0 : decode cX8_as 0 = .ok (.aload_n 0, 1) := by decide +kernel
theorem dX8_as_1 : decode cX8_as 1 = .ok (.iload_n 1, 1) := by decide +kernel
theorem dX8_as_2 : decode cX8_as 2 = .ok (.iload_n 2, 1) := by decide +kernel
theorem dX8_as_3 : decode cX8_as 3 = .ok (.invokevirtual 164, 3) := by decide +kernel
theorem dX8_as_6 : decode cX8_as 6 = .ok (.ifCond .eq 13, 3) := by decide +kernel
theorem dX8_as_9 : decode cX8_as 9 = .ok (.iload_n 3, 1) := by decide +kernel
theorem dX8_as_10 : decode cX8_as 10 = .ok (.iconst 0, 1) := by decide +kernel
theorem dX8_as_11 : decode cX8_as 11 = .ok (.bipush 6, 2) := by decide +kernel
theorem dX8_as_13 : decode cX8_as 13 = .ok (.invokestatic 50, 3) := by decide +kernel
theorem dX8_as_16 : decode cX8_as 16 = .ok (.ifCond .ne 9, 3) := by decide +kernel
theorem dX8_as_19 : decode cX8_as 19 = .ok (.aload_n 0, 1) := by decide +kernel
theorem dX8_as_20 : decode cX8_as 20 = .ok (.iconst 1, 1) := by decide +kernel
theorem dX8_as_21 : decode cX8_as 21 = .ok (.invokevirtual 62, 3) := by decide +kernel
theorem dX8_as_24 : decode cX8_as 24 = .ok (.ireturn, 1) := by decide +kernel
theorem dX8_as_25 : decode cX8_as 25 = .ok (.iconst 3, 1) := by decide +kernel
theorem dX8_as_26 : decode cX8_as 26 = .ok (.iload_n 1, 1) := by decide +kernel
theorem dX8_as_27 : decode cX8_as 27 = .ok (.imul, 1) := by decide +kernel
theorem dX8_as_28 : decode cX8_as 28 = .ok (.iload_n 2, 1) := by decide +kernel
theorem dX8_as_29 : decode cX8_as 29 = .ok (.iadd, 1) := by decide +kernel
theorem dX8_as_30 : decode cX8_as 30 = .ok (.istore 4, 2) := by decide +kernel
theorem dX8_as_32 : decode cX8_as 32 = .ok (.aload_n 0, 1) := by decide +kernel
theorem dX8_as_33 : decode cX8_as 33 = .ok (.iload 4, 2) := by decide +kernel
theorem dX8_as_35 : decode cX8_as 35 = .ok (.iconst 0, 1) := by decide +kernel
theorem dX8_as_36 : decode cX8_as 36 = .ok (.invokevirtual 58, 3) := by decide +kernel
theorem dX8_as_39 : decode cX8_as 39 = .ok (.iload_n 3, 1) := by decide +kernel
theorem dX8_as_40 : decode cX8_as 40 = .ok (.invokestatic 168, 3) := by decide +kernel
theorem dX8_as_43 : decode cX8_as 43 = .ok (.ifCond .eq 13, 3) := by decide +kernel
theorem dX8_as_46 : decode cX8_as 46 = .ok (.aload_n 0, 1) := by decide +kernel
theorem dX8_as_47 : decode cX8_as 47 = .ok (.iload 4, 2) := by decide +kernel
theorem dX8_as_49 : decode cX8_as 49 = .ok (.iconst 1, 1) := by decide +kernel
theorem dX8_as_50 : decode cX8_as 50 = .ok (.invokevirtual 58, 3) := by decide +kernel
theorem dX8_as_53 : decode cX8_as 53 = .ok (.goto 8, 3) := by decide +kernel
theorem dX8_as_56 : decode cX8_as 56 = .ok (.aload_n 0, 1) := by decide +kernel
theorem dX8_as_57 : decode cX8_as 57 = .ok (.iconst 5, 1) := by decide +kernel
theorem dX8_as_58 : decode cX8_as 58 = .ok (.invokevirtual 62, 3) := by decide +kernel
theorem dX8_as_61 : decode cX8_as 61 = .ok (.ireturn, 1) := by decide +kernel
theorem dX8_mayLoose_0 : decode cX8_mayLoose 0 = .ok (.aload_n 0, 1) := by decide +kernel
theorem dX8_mayLoose_1 : decode cX8_mayLoose 1 = .ok (.iload_n 1, 1) := by decide +kernel
theorem dX8_mayLoose_2 : decode cX8_mayLoose 2 = .ok (.invokevirtual 124, 3) := by decide +kernel
theorem dX8_mayLoose_5 : decode cX8_mayLoose 5 = .ok (.ifCond .eq 26, 3) := by decide +kernel
theorem dX8_mayLoose_8 : decode cX8_mayLoose 8 = .ok (.aload_n 0, 1) := by decide +kernel
theorem dX8_mayLoose_9 : decode cX8_mayLoose 9 = .ok (.invokevirtual 171, 3) := by decide +kernel
theorem dX8_mayLoose_12 : decode cX8_mayLoose 12 = .ok (.ifCond .eq 19, 3) := by decide +kernel
theorem dX8_mayLoose_15 : decode cX8_mayLoose 15 = .ok (.aload_n 0, 1) := by decide +kernel
theorem dX8_mayLoose_16 : decode cX8_mayLoose 16 = .ok (.iload_n 1, 1) := by decide +kernel
theorem dX8_mayLoose_17 : decode cX8_mayLoose 17 = .ok (.iconst 3, 1) := by decide +kernel
theorem dX8_mayLoose_18 : decode cX8_mayLoose 18 = .ok (.idiv, 1) := by decide +kernel
theorem dX8_mayLoose_19 : decode cX8_mayLoose 19 = .ok (.iconst 2, 1) := by decide +kernel
theorem dX8_mayLoose_20 : decode cX8_mayLoose 20 = .ok (.invokevirtual 146, 3) := by decide +kernel
theorem dX8_mayLoose_23 : decode cX8_mayLoose 23 = .ok (.iconst 1, 1) := by decide +kernel
theorem dX8_mayLoose_24 : decode cX8_mayLoose 24 = .ok (.if_icmp .eq 7, 3) := by decide +kernel
theorem dX8_mayLoose_27 : decode cX8_mayLoose 27 = .ok (.iconst 1, 1) := by decide +kernel
theorem dX8_mayLoose_28 : decode cX8_mayLoose 28 = .ok (.goto 4, 3) := by decide +kernel
theorem dX8_mayLoose_31 : decode cX8_mayLoose 31 = .ok (.iconst 0, 1) := by decide +kernel
theorem dX8_mayLoose_32 : decode cX8_mayLoose 32 = .ok (.ireturn, 1) := by decide +kernel
theorem dX8_looses_0 : decode cX8_looses 0 = .ok (.aload_n 0, 1) := by decide +kernel
theorem dX8_looses_1 : decode cX8_looses 1 = .ok (.getfield 7, 3) := by decide +kernel
theorem dX8_looses_4 : decode cX8_looses 4 = .ok (.bipush 87, 2) := by decide +kernel
theorem dX8_looses_6 : decode cX8_looses 6 = .ok (.iconst 4, 1) := by decide +kernel
theorem dX8_looses_7 : decode cX8_looses 7 = .ok (.iload_n 1, 1) := by decide +kernel
theorem dX8_looses_8 : decode cX8_looses 8 = .ok (.imul, 1) := by decide +kernel
theorem dX8_looses_9 : decode cX8_looses 9 = .ok (.iadd, 1) := by decide +kernel
theorem dX8_looses_10 : decode cX8_looses 10 = .ok (.iconst 3, 1) := by decide +kernel
theorem dX8_looses_11 : decode cX8_looses 11 = .ok (.iadd, 1) := by decide +kernel
theorem dX8_looses_12 : decode cX8_looses 12 = .ok (.aload_n 0, 1) := by decide +kernel
theorem dX8_looses_13 : decode cX8_looses 13 = .ok (.getfield 7, 3) := by decide +kernel
theorem dX8_looses_16 : decode cX8_looses 16 = .ok (.iconst 1, 1) := by decide +kernel
theorem dX8_looses_17 : decode cX8_looses 17 = .ok (.iaload, 1) := by decide +kernel
theorem dX8_looses_18 : decode cX8_looses 18 = .ok (.iastore, 1) := by decide +kernel
theorem dX8_looses_19 : decode cX8_looses 19 = .ok (.return_, 1) := by decide +kernel
theorem dX8_loose_0 : decode cX8_loose 0 = .ok (.aload_n 0, 1) := by decide +kernel
theorem dX8_loose_1 : decode cX8_loose 1 = .ok (.iload_n 1, 1) := by decide +kernel
theorem dX8_loose_2 : decode cX8_loose 2 = .ok (.iload_n 2, 1) := by decide +kernel
theorem dX8_loose_3 : decode cX8_loose 3 = .ok (.invokevirtual 164, 3) := by decide +kernel
theorem dX8_loose_6 : decode cX8_loose 6 = .ok (.ifCond .ne 9, 3) := by decide +kernel
theorem dX8_loose_9 : decode cX8_loose 9 = .ok (.aload_n 0, 1) := by decide +kernel
theorem dX8_loose_10 : decode cX8_loose 10 = .ok (.iconst 1, 1) := by decide +kernel
theorem dX8_loose_11 : decode cX8_loose 11 = .ok (.invokevirtual 62, 3) := by decide +kernel
theorem dX8_loose_14 : decode cX8_loose 14 = .ok (.ireturn, 1) := by decide +kernel
theorem dX8_loose_15 : decode cX8_loose 15 = .ok (.iconst 3, 1) := by decide +kernel
theorem dX8_loose_16 : decode cX8_loose 16 = .ok (.iload_n 1, 1) := by decide +kernel
theorem dX8_loose_17 : decode cX8_loose 17 = .ok (.imul, 1) := by decide +kernel
theorem dX8_loose_18 : decode cX8_loose 18 = .ok (.iload_n 2, 1) := by decide +kernel
theorem dX8_loose_19 : decode cX8_loose 19 = .ok (.iadd, 1) := by decide +kernel
theorem dX8_loose_20 : decode cX8_loose 20 = .ok (.istore_n 3, 1) := by decide +kernel
theorem dX8_loose_21 : decode cX8_loose 21 = .ok (.aload_n 0, 1) := by decide +kernel
theorem dX8_loose_22 : decode cX8_loose 22 = .ok (.iload_n 3, 1) := by decide +kernel
theorem dX8_loose_23 : decode cX8_loose 23 = .ok (.invokevirtual 174, 3) := by decide +kernel
theorem dX8_loose_26 : decode cX8_loose 26 = .ok (.ifCond .ne 9, 3) := by decide +kernel
theorem dX8_loose_29 : decode cX8_loose 29 = .ok (.aload_n 0, 1) := by decide +kernel
theorem dX8_loose_30 : decode cX8_loose 30 = .ok (.iconst 3, 1) := by decide +kernel
theorem dX8_loose_31 : decode cX8_loose 31 = .ok (.invokevirtual 62, 3) := by decide +kernel
theorem dX8_loose_34 : decode cX8_loose 34 = .ok (.ireturn, 1) := by decide +kernel
theorem dX8_loose_35 : decode cX8_loose 35 = .ok (.aload_n 0, 1) := by decide +kernel
theorem dX8_loose_36 : decode cX8_loose 36 = .ok (.iload_n 3, 1) := by decide +kernel
theorem dX8_loose_37 : decode cX8_loose 37 = .ok (.invokevirtual 177, 3) := by decide +kernel
theorem dX8_loose_40 : decode cX8_loose 40 = .ok (.aload_n 0, 1) := by decide +kernel
theorem dX8_loose_41 : decode cX8_loose 41 = .ok (.iload_n 3, 1) := by decide +kernel
theorem dX8_loose_42 : decode cX8_loose 42 = .ok (.invokevirtual 133, 3) := by decide +kernel
theorem dX8_loose_45 : decode cX8_loose 45 = .ok (.ireturn, 1) := by decide +kernel
theorem dX8_wind_0 : decode cX8_wind 0 = .ok (.iload_n 1, 1) := by decide +kernel
theorem dX8_wind_1 : decode cX8_wind 1 = .ok (.iconst 0, 1) := by decide +kernel
theorem dX8_wind_2 : decode cX8_wind 2 = .ok (.iconst 1, 1) := by decide +kernel
theorem dX8_wind_3 : decode cX8_wind 3 = .ok (.invokestatic 50, 3) := by decide +kernel
theorem dX8_wind_6 : decode cX8_wind 6 = .ok (.ifCond .eq 11, 3) := by decide +kernel
theorem dX8_wind_9 : decode cX8_wind 9 = .ok (.aload_n 0, 1) := by decide +kernel
theorem dX8_wind_10 : decode cX8_wind 10 = .ok (.iload_n 1, 1) := by decide +kernel
theorem dX8_wind_11 : decode cX8_wind 11 = .ok (.invokevirtual 181, 3) := by decide +kernel
theorem dX8_wind_14 : decode cX8_wind 14 = .ok (.goto 8, 3) := by decide +kernel
theorem dX8_wind_17 : decode cX8_wind 17 = .ok (.aload_n 0, 1) := by decide +kernel
theorem dX8_wind_18 : decode cX8_wind 18 = .ok (.iconst 1, 1) := by decide +kernel
theorem dX8_wind_19 : decode cX8_wind 19 = .ok (.invokevirtual 62, 3) := by decide +kernel
theorem dX8_wind_22 : decode cX8_wind 22 = .ok (.ireturn, 1) := by decide +kernel
theorem dX8_sails_0 : decode cX8_sails 0 = .ok (.iload_n 2, 1) := by decide +kernel
theorem dX8_sails_1 : decode cX8_sails 1 = .ok (.ifCond .ge 8, 3) := by decide +kernel
theorem dX8_sails_4 : decode cX8_sails 4 = .ok (.iload_n 2, 1) := by decide +kernel
theorem dX8_sails_5 : decode cX8_sails 5 = .ok (.ineg, 1) := by decide +kernel
theorem dX8_sails_6 : decode cX8_sails 6 = .ok (.goto 4, 3) := by decide +kernel
theorem dX8_sails_9 : decode cX8_sails 9 = .ok (.iload_n 2, 1) := by decide +kernel
theorem dX8_sails_10 : decode cX8_sails 10 = .ok (.istore 4, 2) := by decide +kernel
theorem dX8_sails_12 : decode cX8_sails 12 = .ok (.iload_n 2, 1) := by decide +kernel
theorem dX8_sails_13 : decode cX8_sails 13 = .ok (.ifCond .ge 8, 3) := by decide +kernel
theorem dX8_sails_16 : decode cX8_sails 16 = .ok (.iload_n 3, 1) := by decide +kernel
theorem dX8_sails_17 : decode cX8_sails 17 = .ok (.ineg, 1) := by decide +kernel
theorem dX8_sails_18 : decode cX8_sails 18 = .ok (.goto 4, 3) := by decide +kernel
theorem dX8_sails_21 : decode cX8_sails 21 = .ok (.iload_n 3, 1) := by decide +kernel
theorem dX8_sails_22 : decode cX8_sails 22 = .ok (.istore 5, 2) := by decide +kernel
theorem dX8_sails_24 : decode cX8_sails 24 = .ok (.iload 4, 2) := by decide +kernel
theorem dX8_sails_26 : decode cX8_sails 26 = .ok (.ifCond .le 162, 3) := by decide +kernel
theorem dX8_sails_29 : decode cX8_sails 29 = .ok (.aload_n 0, 1) := by decide +kernel
theorem dX8_sails_30 : decode cX8_sails 30 = .ok (.iload_n 1, 1) := by decide +kernel
theorem dX8_sails_31 : decode cX8_sails 31 = .ok (.iconst 2, 1) := by decide +kernel
theorem dX8_sails_32 : decode cX8_sails 32 = .ok (.invokevirtual 146, 3) := by decide +kernel
theorem dX8_sails_35 : decode cX8_sails 35 = .ok (.ifCond .ne 153, 3) := by decide +kernel
theorem dX8_sails_38 : decode cX8_sails 38 = .ok (.aload_n 0, 1) := by decide +kernel
theorem dX8_sails_39 : decode cX8_sails 39 = .ok (.iload_n 1, 1) := by decide +kernel
theorem dX8_sails_40 : decode cX8_sails 40 = .ok (.iconst 0, 1) := by decide +kernel
theorem dX8_sails_41 : decode cX8_sails 41 = .ok (.invokevirtual 146, 3) := by decide +kernel
theorem dX8_sails_44 : decode cX8_sails 44 = .ok (.istore 6, 2) := by decide +kernel
theorem dX8_sails_46 : decode cX8_sails 46 = .ok (.iload_n 3, 1) := by decide +kernel
theorem dX8_sails_47 : decode cX8_sails 47 = .ok (.iconst 1, 1) := by decide +kernel
theorem dX8_sails_48 : decode cX8_sails 48 = .ok (.if_icmp .ne 28, 3) := by decide +kernel
theorem dX8_sails_51 : decode cX8_sails 51 = .ok (.iload 6, 2) := by decide +kernel
theorem dX8_sails_53 : decode cX8_sails 53 = .ok (.iload 5, 2) := by decide +kernel
theorem dX8_sails_55 : decode cX8_sails 55 = .ok (.iadd, 1) := by decide +kernel
theorem dX8_sails_56 : decode cX8_sails 56 = .ok (.bipush 8, 2) := by decide +kernel
theorem dX8_sails_58 : decode cX8_sails 58 = .ok (.iadd, 1) := by decide +kernel
theorem dX8_sails_59 : decode cX8_sails 59 = .ok (.bipush 8, 2) := by decide +kernel
theorem dX8_sails_61 : decode cX8_sails 61 = .ok (.idiv, 1) := by decide +kernel
theorem dX8_sails_62 : decode cX8_sails 62 = .ok (.iload 6, 2) := by decide +kernel
theorem dX8_sails_64 : decode cX8_sails 64 = .ok (.bipush 8, 2) := by decide +kernel
theorem dX8_sails_66 : decode cX8_sails 66 = .ok (.idiv, 1) := by decide +kernel
theorem dX8_sails_67 : decode cX8_sails 67 = .ok (.iconst 1, 1) := by decide +kernel
theorem dX8_sails_68 : decode cX8_sails 68 = .ok (.iadd, 1) := by decide +kernel
theorem dX8_sails_69 : decode cX8_sails 69 = .ok (.if_icmp .ne 7, 3) := by decide +kernel
theorem dX8_sails_72 : decode cX8_sails 72 = .ok (.iconst 1, 1) := by decide +kernel
theorem dX8_sails_73 : decode cX8_sails 73 = .ok (.goto 4, 3) := by decide +kernel
theorem dX8_sails_76 : decode cX8_sails 76 = .ok (.iconst 0, 1) := by decide +kernel
theorem dX8_sails_77 : decode cX8_sails 77 = .ok (.istore 7, 2) := by decide +kernel
theorem dX8_sails_79 : decode cX8_sails 79 = .ok (.iload_n 3, 1) := by decide +kernel
theorem dX8_sails_80 : decode cX8_sails 80 = .ok (.bipush 8, 2) := by decide +kernel
theorem dX8_sails_82 : decode cX8_sails 82 = .ok (.if_icmp .ne 18, 3) := by decide +kernel
theorem dX8_sails_85 : decode cX8_sails 85 = .ok (.iload 6, 2) := by decide +kernel
theorem dX8_sails_87 : decode cX8_sails 87 = .ok (.iload 5, 2) := by decide +kernel
theorem dX8_sails_89 : decode cX8_sails 89 = .ok (.iadd, 1) := by decide +kernel
theorem dX8_sails_90 : decode cX8_sails 90 = .ok (.invokestatic 136, 3) := by decide +kernel
theorem dX8_sails_93 : decode cX8_sails 93 = .ok (.ifCond .eq 7, 3) := by decide +kernel
theorem dX8_sails_96 : decode cX8_sails 96 = .ok (.iconst 1, 1) := by decide +kernel
theorem dX8_sails_97 : decode cX8_sails 97 = .ok (.goto 4, 3) := by decide +kernel
theorem dX8_sails_100 : decode cX8_sails 100 = .ok (.iconst 0, 1) := by decide +kernel
theorem dX8_sails_101 : decode cX8_sails 101 = .ok (.istore 8, 2) := by decide +kernel
theorem dX8_sails_103 : decode cX8_sails 103 = .ok (.iload 7, 2) := by decide +kernel
theorem dX8_sails_105 : decode cX8_sails 105 = .ok (.ifCond .ne 8, 3) := by decide +kernel
theorem dX8_sails_108 : decode cX8_sails 108 = .ok (.iload 8, 2) := by decide +kernel
theorem dX8_sails_110 : decode cX8_sails 110 = .ok (.ifCond .eq 72, 3) := by decide +kernel
theorem dX8_sails_113 : decode cX8_sails 113 = .ok (.aload_n 0, 1) := by decide +kernel
theorem dX8_sails_114 : decode cX8_sails 114 = .ok (.iload_n 1, 1) := by decide +kernel
theorem dX8_sails_115 : decode cX8_sails 115 = .ok (.iconst 0, 1) := by decide +kernel
theorem dX8_sails_116 : decode cX8_sails 116 = .ok (.iload 6, 2) := by decide +kernel
theorem dX8_sails_118 : decode cX8_sails 118 = .ok (.iload 5, 2) := by decide +kernel
theorem dX8_sails_120 : decode cX8_sails 120 = .ok (.iadd, 1) := by decide +kernel
theorem dX8_sails_121 : decode cX8_sails 121 = .ok (.invokevirtual 142, 3) := by decide +kernel
theorem dX8_sails_124 : decode cX8_sails 124 = .ok (.aload_n 0, 1) := by decide +kernel
theorem dX8_sails_125 : decode cX8_sails 125 = .ok (.getfield 7, 3) := by decide +kernel
theorem dX8_sails_128 : decode cX8_sails 128 = .ok (.bipush 8, 2) := by decide +kernel
theorem dX8_sails_130 : decode cX8_sails 130 = .ok (.iload 6, 2) := by decide +kernel
theorem dX8_sails_132 : decode cX8_sails 132 = .ok (.iadd, 1) := by decide +kernel
theorem dX8_sails_133 : decode cX8_sails 133 = .ok (.iload 5, 2) := by decide +kernel
theorem dX8_sails_135 : decode cX8_sails 135 = .ok (.iadd, 1) := by decide +kernel
theorem dX8_sails_136 : decode cX8_sails 136 = .ok (.iaload, 1) := by decide +kernel
theorem dX8_sails_137 : decode cX8_sails 137 = .ok (.iconst 1, 1) := by decide +kernel
theorem dX8_sails_138 : decode cX8_sails 138 = .ok (.if_icmp .ne 7, 3) := by decide +kernel
theorem dX8_sails_141 : decode cX8_sails 141 = .ok (.iconst 1, 1) := by decide +kernel
theorem dX8_sails_142 : decode cX8_sails 142 = .ok (.goto 4, 3) := by decide +kernel
theorem dX8_sails_145 : decode cX8_sails 145 = .ok (.iconst 0, 1) := by decide +kernel
theorem dX8_sails_146 : decode cX8_sails 146 = .ok (.istore 9, 2) := by decide +kernel
theorem dX8_sails_148 : decode cX8_sails 148 = .ok (.aload_n 0, 1) := by decide +kernel
theorem dX8_sails_149 : decode cX8_sails 149 = .ok (.iload_n 1, 1) := by decide +kernel
theorem dX8_sails_150 : decode cX8_sails 150 = .ok (.iconst 2, 1) := by decide +kernel
theorem dX8_sails_151 : decode cX8_sails 151 = .ok (.iload 6, 2) := by decide +kernel
theorem dX8_sails_153 : decode cX8_sails 153 = .ok (.iload 5, 2) := by decide +kernel
theorem dX8_sails_155 : decode cX8_sails 155 = .ok (.iadd, 1) := by decide +kernel
theorem dX8_sails_156 : decode cX8_sails 156 = .ok (.aload_n 0, 1) := by decide +kernel
theorem dX8_sails_157 : decode cX8_sails 157 = .ok (.iload_n 1, 1) := by decide +kernel
theorem dX8_sails_158 : decode cX8_sails 158 = .ok (.iconst 1, 1) := by decide +kernel
theorem dX8_sails_159 : decode cX8_sails 159 = .ok (.invokevirtual 146, 3) := by decide +kernel
theorem dX8_sails_162 : decode cX8_sails 162 = .ok (.if_icmp .ne 7, 3) := by decide +kernel
theorem dX8_sails_165 : decode cX8_sails 165 = .ok (.iconst 2, 1) := by decide +kernel
theorem dX8_sails_166 : decode cX8_sails 166 = .ok (.goto 13, 3) := by decide +kernel
theorem dX8_sails_169 : decode cX8_sails 169 = .ok (.iload 9, 2) := by decide +kernel
theorem dX8_sails_171 : decode cX8_sails 171 = .ok (.ifCond .eq 7, 3) := by decide +kernel
theorem dX8_sails_174 : decode cX8_sails 174 = .ok (.iconst 1, 1) := by decide +kernel
theorem dX8_sails_175 : decode cX8_sails 175 = .ok (.goto 4, 3) := by decide +kernel
theorem dX8_sails_178 : decode cX8_sails 178 = .ok (.iconst 0, 1) := by decide +kernel
theorem dX8_sails_179 : decode cX8_sails 179 = .ok (.invokevirtual 142, 3) := by decide +kernel
theorem dX8_sails_182 : decode cX8_sails 182 = .ok (.iinc 4 (-1), 3) := by decide +kernel
theorem dX8_sails_185 : decode cX8_sails 185 = .ok (.goto (-161), 3) := by decide +kernel
theorem dX8_sails_188 : decode cX8_sails 188 = .ok (.return_, 1) := by decide +kernel
theorem dX8_hour_0 : decode cX8_hour 0 = .ok (.aload_n 0, 1) := by decide +kernel
theorem dX8_hour_1 : decode cX8_hour 1 = .ok (.iconst 0, 1) := by decide +kernel
theorem dX8_hour_2 : decode cX8_hour 2 = .ok (.invokevirtual 181, 3) := by decide +kernel
theorem dX8_hour_5 : decode cX8_hour 5 = .ok (.iconst 3, 1) := by decide +kernel
theorem dX8_hour_6 : decode cX8_hour 6 = .ok (.idiv, 1) := by decide +kernel
theorem dX8_hour_7 : decode cX8_hour 7 = .ok (.istore_n 1, 1) := by decide +kernel
theorem dX8_hour_8 : decode cX8_hour 8 = .ok (.aload_n 0, 1) := by decide +kernel
theorem dX8_hour_9 : decode cX8_hour 9 = .ok (.iconst 1, 1) := by decide +kernel
theorem dX8_hour_10 : decode cX8_hour 10 = .ok (.invokevirtual 181, 3) := by decide +kernel
theorem dX8_hour_13 : decode cX8_hour 13 = .ok (.iconst 3, 1) := by decide +kernel
theorem dX8_hour_14 : decode cX8_hour 14 = .ok (.idiv, 1) := by decide +kernel
theorem dX8_hour_15 : decode cX8_hour 15 = .ok (.istore_n 2, 1) := by decide +kernel
theorem dX8_hour_16 : decode cX8_hour 16 = .ok (.iconst 0, 1) := by decide +kernel
theorem dX8_hour_17 : decode cX8_hour 17 = .ok (.istore_n 3, 1) := by decide +kernel
theorem dX8_hour_18 : decode cX8_hour 18 = .ok (.iload_n 3, 1) := by decide +kernel
theorem dX8_hour_19 : decode cX8_hour 19 = .ok (.aload_n 0, 1) := by decide +kernel
theorem dX8_hour_20 : decode cX8_hour 20 = .ok (.getfield 7, 3) := by decide +kernel
theorem dX8_hour_23 : decode cX8_hour 23 = .ok (.iconst 0, 1) := by decide +kernel
theorem dX8_hour_24 : decode cX8_hour 24 = .ok (.iaload, 1) := by decide +kernel
theorem dX8_hour_25 : decode cX8_hour 25 = .ok (.if_icmp .ge 24, 3) := by decide +kernel
theorem dX8_hour_28 : decode cX8_hour 28 = .ok (.aload_n 0, 1) := by decide +kernel
theorem dX8_hour_29 : decode cX8_hour 29 = .ok (.iload_n 3, 1) := by decide +kernel
theorem dX8_hour_30 : decode cX8_hour 30 = .ok (.iload_n 1, 1) := by decide +kernel
theorem dX8_hour_31 : decode cX8_hour 31 = .ok (.iconst 1, 1) := by decide +kernel
theorem dX8_hour_32 : decode cX8_hour 32 = .ok (.invokevirtual 184, 3) := by decide +kernel
theorem dX8_hour_35 : decode cX8_hour 35 = .ok (.aload_n 0, 1) := by decide +kernel
theorem dX8_hour_36 : decode cX8_hour 36 = .ok (.iload_n 3, 1) := by decide +kernel
theorem dX8_hour_37 : decode cX8_hour 37 = .ok (.iload_n 2, 1) := by decide +kernel
theorem dX8_hour_38 : decode cX8_hour 38 = .ok (.bipush 8, 2) := by decide +kernel
theorem dX8_hour_40 : decode cX8_hour 40 = .ok (.invokevirtual 184, 3) := by decide +kernel
theorem dX8_hour_43 : decode cX8_hour 43 = .ok (.iinc 3 1, 3) := by decide +kernel
theorem dX8_hour_46 : decode cX8_hour 46 = .ok (.goto (-28), 3) := by decide +kernel
theorem dX8_hour_49 : decode cX8_hour 49 = .ok (.aload_n 0, 1) := by decide +kernel
theorem dX8_hour_50 : decode cX8_hour 50 = .ok (.getfield 7, 3) := by decide +kernel
theorem dX8_hour_53 : decode cX8_hour 53 = .ok (.iconst 1, 1) := by decide +kernel
theorem dX8_hour_54 : decode cX8_hour 54 = .ok (.dup2, 1) := by decide +kernel
theorem dX8_hour_55 : decode cX8_hour 55 = .ok (.iaload, 1) := by decide +kernel
theorem dX8_hour_56 : decode cX8_hour 56 = .ok (.iconst 1, 1) := by decide +kernel
theorem dX8_hour_57 : decode cX8_hour 57 = .ok (.iadd, 1) := by decide +kernel
theorem dX8_hour_58 : decode cX8_hour 58 = .ok (.iastore, 1) := by decide +kernel
theorem dX8_hour_59 : decode cX8_hour 59 = .ok (.return_, 1) := by decide +kernel
theorem dX8_go_0 : decode cX8_go 0 = .ok (.iconst 0, 1) := by decide +kernel
theorem dX8_go_1 : decode cX8_go 1 = .ok (.istore_n 2, 1) := by decide +kernel
theorem dX8_go_2 : decode cX8_go 2 = .ok (.iload_n 2, 1) := by decide +kernel
theorem dX8_go_3 : decode cX8_go 3 = .ok (.iload_n 1, 1) := by decide +kernel
theorem dX8_go_4 : decode cX8_go 4 = .ok (.if_icmp .ge 13, 3) := by decide +kernel
theorem dX8_go_7 : decode cX8_go 7 = .ok (.aload_n 0, 1) := by decide +kernel
theorem dX8_go_8 : decode cX8_go 8 = .ok (.invokevirtual 187, 3) := by decide +kernel
theorem dX8_go_11 : decode cX8_go 11 = .ok (.iinc 2 1, 3) := by decide +kernel
theorem dX8_go_14 : decode cX8_go 14 = .ok (.goto (-12), 3) := by decide +kernel
theorem dX8_go_17 : decode cX8_go 17 = .ok (.return_, 1) := by decide +kernel
theorem dX8_standing_0 : decode cX8_standing 0 = .ok (.iconst 0, 1) := by decide +kernel
theorem dX8_standing_1 : decode cX8_standing 1 = .ok (.istore_n 2, 1) := by decide +kernel
theorem dX8_standing_2 : decode cX8_standing 2 = .ok (.iconst 0, 1) := by decide +kernel
theorem dX8_standing_3 : decode cX8_standing 3 = .ok (.istore_n 3, 1) := by decide +kernel
theorem dX8_standing_4 : decode cX8_standing 4 = .ok (.iload_n 3, 1) := by decide +kernel
theorem dX8_standing_5 : decode cX8_standing 5 = .ok (.aload_n 0, 1) := by decide +kernel
theorem dX8_standing_6 : decode cX8_standing 6 = .ok (.getfield 7, 3) := by decide +kernel
theorem dX8_standing_9 : decode cX8_standing 9 = .ok (.iconst 0, 1) := by decide +kernel
theorem dX8_standing_10 : decode cX8_standing 10 = .ok (.iaload, 1) := by decide +kernel
theorem dX8_standing_11 : decode cX8_standing 11 = .ok (.if_icmp .ge 27, 3) := by decide +kernel
theorem dX8_standing_14 : decode cX8_standing 14 = .ok (.iload_n 2, 1) := by decide +kernel
theorem dX8_standing_15 : decode cX8_standing 15 = .ok (.aload_n 0, 1) := by decide +kernel
theorem dX8_standing_16 : decode cX8_standing 16 = .ok (.iload_n 3, 1) := by decide +kernel
theorem dX8_standing_17 : decode cX8_standing 17 = .ok (.iconst 2, 1) := by decide +kernel
theorem dX8_standing_18 : decode cX8_standing 18 = .ok (.invokevirtual 146, 3) := by decide +kernel
theorem dX8_standing_21 : decode cX8_standing 21 = .ok (.iload_n 1, 1) := by decide +kernel
theorem dX8_standing_22 : decode cX8_standing 22 = .ok (.if_icmp .ne 7, 3) := by decide +kernel
theorem dX8_standing_25 : decode cX8_standing 25 = .ok (.iconst 1, 1) := by decide +kernel
theorem dX8_standing_26 : decode cX8_standing 26 = .ok (.goto 4, 3) := by decide +kernel
theorem dX8_standing_29 : decode cX8_standing 29 = .ok (.iconst 0, 1) := by decide +kernel
theorem dX8_standing_30 : decode cX8_standing 30 = .ok (.iadd, 1) := by decide +kernel
theorem dX8_standing_31 : decode cX8_standing 31 = .ok (.istore_n 2, 1) := by decide +kernel
theorem dX8_standing_32 : decode cX8_standing 32 = .ok (.iinc 3 1, 3) := by decide +kernel
theorem dX8_standing_35 : decode cX8_standing 35 = .ok (.goto (-31), 3) := by decide +kernel
theorem dX8_standing_38 : decode cX8_standing 38 = .ok (.iload_n 2, 1) := by decide +kernel
theorem dX8_standing_39 : decode cX8_standing 39 = .ok (.ireturn, 1) := by decide +kernel
theorem dX8_hours_0 : decode cX8_hours 0 = .ok (.iload_n 1, 1) := by decide +kernel
theorem dX8_hours_1 : decode cX8_hours 1 = .ok (.iconst 1, 1) := by decide +kernel
theorem dX8_hours_2 : decode cX8_hours 2 = .ok (.bipush 48, 2) := by decide +kernel
theorem dX8_hours_4 : decode cX8_hours 4 = .ok (.invokestatic 50, 3) := by decide +kernel
theorem dX8_hours_7 : decode cX8_hours 7 = .ok (.ifCond .ne 9, 3) := by decide +kernel
theorem dX8_hours_10 : decode cX8_hours 10 = .ok (.aload_n 0, 1) := by decide +kernel
theorem dX8_hours_11 : decode cX8_hours 11 = .ok (.iconst 1, 1) := by decide +kernel
theorem dX8_hours_12 : decode cX8_hours 12 = .ok (.invokevirtual 62, 3) := by decide +kernel
theorem dX8_hours_15 : decode cX8_hours 15 = .ok (.ireturn, 1) := by decide +kernel
theorem dX8_hours_16 : decode cX8_hours 16 = .ok (.aload_n 0, 1) := by decide +kernel
theorem dX8_hours_17 : decode cX8_hours 17 = .ok (.getfield 7, 3) := by decide +kernel
theorem dX8_hours_20 : decode cX8_hours 20 = .ok (.iconst 1, 1) := by decide +kernel
theorem dX8_hours_21 : decode cX8_hours 21 = .ok (.iaload, 1) := by decide +kernel
theorem dX8_hours_22 : decode cX8_hours 22 = .ok (.iload_n 1, 1) := by decide +kernel
theorem dX8_hours_23 : decode cX8_hours 23 = .ok (.iadd, 1) := by decide +kernel
theorem dX8_hours_24 : decode cX8_hours 24 = .ok (.sipush 9999, 3) := by decide +kernel
theorem dX8_hours_27 : decode cX8_hours 27 = .ok (.if_icmp .le 9, 3) := by decide +kernel
theorem dX8_hours_30 : decode cX8_hours 30 = .ok (.aload_n 0, 1) := by decide +kernel
theorem dX8_hours_31 : decode cX8_hours 31 = .ok (.iconst 3, 1) := by decide +kernel
theorem dX8_hours_32 : decode cX8_hours 32 = .ok (.invokevirtual 62, 3) := by decide +kernel
theorem dX8_hours_35 : decode cX8_hours 35 = .ok (.ireturn, 1) := by decide +kernel
theorem dX8_hours_36 : decode cX8_hours 36 = .ok (.aload_n 0, 1) := by decide +kernel
theorem dX8_hours_37 : decode cX8_hours 37 = .ok (.iload_n 1, 1) := by decide +kernel
theorem dX8_hours_38 : decode cX8_hours 38 = .ok (.invokevirtual 190, 3) := by decide +kernel
theorem dX8_hours_41 : decode cX8_hours 41 = .ok (.aload_n 0, 1) := by decide +kernel
theorem dX8_hours_42 : decode cX8_hours 42 = .ok (.iconst 2, 1) := by decide +kernel
theorem dX8_hours_43 : decode cX8_hours 43 = .ok (.invokevirtual 193, 3) := by decide +kernel
theorem dX8_hours_46 : decode cX8_hours 46 = .ok (.ireturn, 1) := by decide +kernel
theorem dX8_draw_0 : decode cX8_draw 0 = .ok (.aload_n 0, 1) := by decide +kernel
theorem dX8_draw_1 : decode cX8_draw 1 = .ok (.getfield 7, 3) := by decide +kernel
theorem dX8_draw_4 : decode cX8_draw 4 = .ok (.bipush 6, 2) := by decide +kernel
theorem dX8_draw_6 : decode cX8_draw 6 = .ok (.aload_n 0, 1) := by decide +kernel
theorem dX8_draw_7 : decode cX8_draw 7 = .ok (.getfield 7, 3) := by decide +kernel
theorem dX8_draw_10 : decode cX8_draw 10 = .ok (.bipush 6, 2) := by decide +kernel
theorem dX8_draw_12 : decode cX8_draw 12 = .ok (.iaload, 1) := by decide +kernel
theorem dX8_draw_13 : decode cX8_draw 13 = .ok (.ldc 196, 2) := by decide +kernel
theorem dX8_draw_15 : decode cX8_draw 15 = .ok (.imul, 1) := by decide +kernel
theorem dX8_draw_16 : decode cX8_draw 16 = .ok (.sipush 12345, 3) := by decide +kernel
theorem dX8_draw_19 : decode cX8_draw 19 = .ok (.iadd, 1) := by decide +kernel
theorem dX8_draw_20 : decode cX8_draw 20 = .ok (.iastore, 1) := by decide +kernel
theorem dX8_draw_21 : decode cX8_draw 21 = .ok (.aload_n 0, 1) := by decide +kernel
theorem dX8_draw_22 : decode cX8_draw 22 = .ok (.getfield 7, 3) := by decide +kernel
theorem dX8_draw_25 : decode cX8_draw 25 = .ok (.bipush 6, 2) := by decide +kernel
theorem dX8_draw_27 : decode cX8_draw 27 = .ok (.iaload, 1) := by decide +kernel
theorem dX8_draw_28 : decode cX8_draw 28 = .ok (.bipush 8, 2) := by decide +kernel
theorem dX8_draw_30 : decode cX8_draw 30 = .ok (.iushr, 1) := by decide +kernel
theorem dX8_draw_31 : decode cX8_draw 31 = .ok (.ireturn, 1) := by decide +kernel
theorem dX8_draws_0 : decode cX8_draws 0 = .ok (.iload_n 1, 1) := by decide +kernel
theorem dX8_draws_1 : decode cX8_draws 1 = .ok (.iconst 1, 1) := by decide +kernel
theorem dX8_draws_2 : decode cX8_draws 2 = .ok (.bipush 48, 2) := by decide +kernel
theorem dX8_draws_4 : decode cX8_draws 4 = .ok (.invokestatic 50, 3) := by decide +kernel
theorem dX8_draws_7 : decode cX8_draws 7 = .ok (.ifCond .ne 9, 3) := by decide +kernel
theorem dX8_draws_10 : decode cX8_draws 10 = .ok (.aload_n 0, 1) := by decide +kernel
theorem dX8_draws_11 : decode cX8_draws 11 = .ok (.iconst 1, 1) := by decide +kernel
theorem dX8_draws_12 : decode cX8_draws 12 = .ok (.invokevirtual 62, 3) := by decide +kernel
theorem dX8_draws_15 : decode cX8_draws 15 = .ok (.ireturn, 1) := by decide +kernel
theorem dX8_draws_16 : decode cX8_draws 16 = .ok (.aload_n 0, 1) := by decide +kernel
theorem dX8_draws_17 : decode cX8_draws 17 = .ok (.getfield 7, 3) := by decide +kernel
theorem dX8_draws_20 : decode cX8_draws 20 = .ok (.iconst 0, 1) := by decide +kernel
theorem dX8_draws_21 : decode cX8_draws 21 = .ok (.iaload, 1) := by decide +kernel
theorem dX8_draws_22 : decode cX8_draws 22 = .ok (.ifCond .eq 17, 3) := by decide +kernel
theorem dX8_draws_25 : decode cX8_draws 25 = .ok (.aload_n 0, 1) := by decide +kernel
theorem dX8_draws_26 : decode cX8_draws 26 = .ok (.getfield 7, 3) := by decide +kernel
theorem dX8_draws_29 : decode cX8_draws 29 = .ok (.iconst 1, 1) := by decide +kernel
theorem dX8_draws_30 : decode cX8_draws 30 = .ok (.iaload, 1) := by decide +kernel
theorem dX8_draws_31 : decode cX8_draws 31 = .ok (.iload_n 1, 1) := by decide +kernel
theorem dX8_draws_32 : decode cX8_draws 32 = .ok (.iadd, 1) := by decide +kernel
theorem dX8_draws_33 : decode cX8_draws 33 = .ok (.sipush 9999, 3) := by decide +kernel
theorem dX8_draws_36 : decode cX8_draws 36 = .ok (.if_icmp .le 9, 3) := by decide +kernel
theorem dX8_draws_39 : decode cX8_draws 39 = .ok (.aload_n 0, 1) := by decide +kernel
theorem dX8_draws_40 : decode cX8_draws 40 = .ok (.iconst 3, 1) := by decide +kernel
theorem dX8_draws_41 : decode cX8_draws 41 = .ok (.invokevirtual 62, 3) := by decide +kernel
theorem dX8_draws_44 : decode cX8_draws 44 = .ok (.ireturn, 1) := by decide +kernel
theorem dX8_draws_45 : decode cX8_draws 45 = .ok (.iconst 0, 1) := by decide +kernel
theorem dX8_draws_46 : decode cX8_draws 46 = .ok (.istore_n 2, 1) := by decide +kernel
theorem dX8_draws_47 : decode cX8_draws 47 = .ok (.iconst 0, 1) := by decide +kernel
theorem dX8_draws_48 : decode cX8_draws 48 = .ok (.istore_n 3, 1) := by decide +kernel
theorem dX8_draws_49 : decode cX8_draws 49 = .ok (.iload_n 3, 1) := by decide +kernel
theorem dX8_draws_50 : decode cX8_draws 50 = .ok (.iload_n 1, 1) := by decide +kernel
theorem dX8_draws_51 : decode cX8_draws 51 = .ok (.if_icmp .ge 79, 3) := by decide +kernel
theorem dX8_draws_54 : decode cX8_draws 54 = .ok (.aload_n 0, 1) := by decide +kernel
theorem dX8_draws_55 : decode cX8_draws 55 = .ok (.invokevirtual 197, 3) := by decide +kernel
theorem dX8_draws_58 : decode cX8_draws 58 = .ok (.aload_n 0, 1) := by decide +kernel
theorem dX8_draws_59 : decode cX8_draws 59 = .ok (.getfield 7, 3) := by decide +kernel
theorem dX8_draws_62 : decode cX8_draws 62 = .ok (.iconst 0, 1) := by decide +kernel
theorem dX8_draws_63 : decode cX8_draws 63 = .ok (.iaload, 1) := by decide +kernel
theorem dX8_draws_64 : decode cX8_draws 64 = .ok (.irem, 1) := by decide +kernel
theorem dX8_draws_65 : decode cX8_draws 65 = .ok (.istore 4, 2) := by decide +kernel
theorem dX8_draws_67 : decode cX8_draws 67 = .ok (.aload_n 0, 1) := by decide +kernel
theorem dX8_draws_68 : decode cX8_draws 68 = .ok (.invokevirtual 171, 3) := by decide +kernel
theorem dX8_draws_71 : decode cX8_draws 71 = .ok (.ifCond .eq 12, 3) := by decide +kernel
theorem dX8_draws_74 : decode cX8_draws 74 = .ok (.aload_n 0, 1) := by decide +kernel
theorem dX8_draws_75 : decode cX8_draws 75 = .ok (.invokevirtual 197, 3) := by decide +kernel
theorem dX8_draws_78 : decode cX8_draws 78 = .ok (.iconst 4, 1) := by decide +kernel
theorem dX8_draws_79 : decode cX8_draws 79 = .ok (.irem, 1) := by decide +kernel
theorem dX8_draws_80 : decode cX8_draws 80 = .ok (.goto 4, 3) := by decide +kernel
theorem dX8_draws_83 : decode cX8_draws 83 = .ok (.iconst 3, 1) := by decide +kernel
theorem dX8_draws_84 : decode cX8_draws 84 = .ok (.istore 5, 2) := by decide +kernel
theorem dX8_draws_86 : decode cX8_draws 86 = .ok (.iload 5, 2) := by decide +kernel
theorem dX8_draws_88 : decode cX8_draws 88 = .ok (.iconst 3, 1) := by decide +kernel
theorem dX8_draws_89 : decode cX8_draws 89 = .ok (.if_icmp .ge 31, 3) := by decide +kernel
theorem dX8_draws_92 : decode cX8_draws 92 = .ok (.aload_n 0, 1) := by decide +kernel
theorem dX8_draws_93 : decode cX8_draws 93 = .ok (.iconst 3, 1) := by decide +kernel
theorem dX8_draws_94 : decode cX8_draws 94 = .ok (.iload 4, 2) := by decide +kernel
theorem dX8_draws_96 : decode cX8_draws 96 = .ok (.imul, 1) := by decide +kernel
theorem dX8_draws_97 : decode cX8_draws 97 = .ok (.iload 5, 2) := by decide +kernel
theorem dX8_draws_99 : decode cX8_draws 99 = .ok (.iadd, 1) := by decide +kernel
theorem dX8_draws_100 : decode cX8_draws 100 = .ok (.invokevirtual 174, 3) := by decide +kernel
theorem dX8_draws_103 : decode cX8_draws 103 = .ok (.ifCond .eq 17, 3) := by decide +kernel
theorem dX8_draws_106 : decode cX8_draws 106 = .ok (.aload_n 0, 1) := by decide +kernel
theorem dX8_draws_107 : decode cX8_draws 107 = .ok (.iconst 3, 1) := by decide +kernel
theorem dX8_draws_108 : decode cX8_draws 108 = .ok (.iload 4, 2) := by decide +kernel
theorem dX8_draws_110 : decode cX8_draws 110 = .ok (.imul, 1) := by decide +kernel
theorem dX8_draws_111 : decode cX8_draws 111 = .ok (.iload 5, 2) := by decide +kernel
theorem dX8_draws_113 : decode cX8_draws 113 = .ok (.iadd, 1) := by decide +kernel
theorem dX8_draws_114 : decode cX8_draws 114 = .ok (.invokevirtual 177, 3) := by decide +kernel
theorem dX8_draws_117 : decode cX8_draws 117 = .ok (.iinc 2 1, 3) := by decide +kernel
theorem dX8_draws_120 : decode cX8_draws 120 = .ok (.aload_n 0, 1) := by decide +kernel
theorem dX8_draws_121 : decode cX8_draws 121 = .ok (.invokevirtual 187, 3) := by decide +kernel
theorem dX8_draws_124 : decode cX8_draws 124 = .ok (.iinc 3 1, 3) := by decide +kernel
theorem dX8_draws_127 : decode cX8_draws 127 = .ok (.goto (-78), 3) := by decide +kernel
theorem dX8_draws_130 : decode cX8_draws 130 = .ok (.iload_n 2, 1) := by decide +kernel
theorem dX8_draws_131 : decode cX8_draws 131 = .ok (.ireturn, 1) := by decide +kernel
theorem dX8_seed_0 : decode cX8_seed 0 = .ok (.aload_n 0, 1) := by decide +kernel
theorem dX8_seed_1 : decode cX8_seed 1 = .ok (.bipush 6, 2) := by decide +kernel
theorem dX8_seed_3 : decode cX8_seed 3 = .ok (.iload_n 1, 1) := by decide +kernel
theorem dX8_seed_4 : decode cX8_seed 4 = .ok (.invokevirtual 139, 3) := by decide +kernel
theorem dX8_seed_7 : decode cX8_seed 7 = .ok (.ireturn, 1) := by decide +kernel
theorem dX8_then_0 : decode cX8_then 0 = .ok (.iload_n 1, 1) := by decide +kernel
theorem dX8_then_1 : decode cX8_then 1 = .ok (.iconst 0, 1) := by decide +kernel
theorem dX8_then_2 : decode cX8_then 2 = .ok (.bipush 48, 2) := by decide +kernel
theorem dX8_then_4 : decode cX8_then 4 = .ok (.invokestatic 50, 3) := by decide +kernel
theorem dX8_then_7 : decode cX8_then 7 = .ok (.ifCond .eq 20, 3) := by decide +kernel
theorem dX8_then_10 : decode cX8_then 10 = .ok (.aload_n 0, 1) := by decide +kernel
theorem dX8_then_11 : decode cX8_then 11 = .ok (.iload_n 2, 1) := by decide +kernel
theorem dX8_then_12 : decode cX8_then 12 = .ok (.invokevirtual 54, 3) := by decide +kernel
theorem dX8_then_15 : decode cX8_then 15 = .ok (.ifCond .eq 12, 3) := by decide +kernel
theorem dX8_then_18 : decode cX8_then 18 = .ok (.iload_n 3, 1) := by decide +kernel
theorem dX8_then_19 : decode cX8_then 19 = .ok (.iconst 0, 1) := by decide +kernel
theorem dX8_then_20 : decode cX8_then 20 = .ok (.iconst 4, 1) := by decide +kernel
theorem dX8_then_21 : decode cX8_then 21 = .ok (.invokestatic 50, 3) := by decide +kernel
theorem dX8_then_24 : decode cX8_then 24 = .ok (.ifCond .ne 9, 3) := by decide +kernel
theorem dX8_then_27 : decode cX8_then 27 = .ok (.aload_n 0, 1) := by decide +kernel
theorem dX8_then_28 : decode cX8_then 28 = .ok (.iconst 1, 1) := by decide +kernel
theorem dX8_then_29 : decode cX8_then 29 = .ok (.invokevirtual 62, 3) := by decide +kernel
theorem dX8_then_32 : decode cX8_then 32 = .ok (.ireturn, 1) := by decide +kernel
theorem dX8_then_33 : decode cX8_then 33 = .ok (.aload_n 0, 1) := by decide +kernel
theorem dX8_then_34 : decode cX8_then 34 = .ok (.iconst 0, 1) := by decide +kernel
theorem dX8_then_35 : decode cX8_then 35 = .ok (.invokevirtual 200, 3) := by decide +kernel
theorem dX8_then_38 : decode cX8_then 38 = .ok (.aload_n 0, 1) := by decide +kernel
theorem dX8_then_39 : decode cX8_then 39 = .ok (.iload_n 1, 1) := by decide +kernel
theorem dX8_then_40 : decode cX8_then 40 = .ok (.invokevirtual 190, 3) := by decide +kernel
theorem dX8_then_43 : decode cX8_then 43 = .ok (.aload_n 0, 1) := by decide +kernel
theorem dX8_then_44 : decode cX8_then 44 = .ok (.iload_n 2, 1) := by decide +kernel
theorem dX8_then_45 : decode cX8_then 45 = .ok (.iload_n 3, 1) := by decide +kernel
theorem dX8_then_46 : decode cX8_then 46 = .ok (.invokevirtual 161, 3) := by decide +kernel
theorem dX8_then_49 : decode cX8_then 49 = .ok (.istore 4, 2) := by decide +kernel
theorem dX8_then_51 : decode cX8_then 51 = .ok (.aload_n 0, 1) := by decide +kernel
theorem dX8_then_52 : decode cX8_then 52 = .ok (.iconst 0, 1) := by decide +kernel
theorem dX8_then_53 : decode cX8_then 53 = .ok (.invokevirtual 203, 3) := by decide +kernel
theorem dX8_then_56 : decode cX8_then 56 = .ok (.iload 4, 2) := by decide +kernel
theorem dX8_then_58 : decode cX8_then 58 = .ok (.ireturn, 1) := by decide +kernel
theorem dX8_home_0 : decode cX8_home 0 = .ok (.aload_n 0, 1) := by decide +kernel
theorem dX8_home_1 : decode cX8_home 1 = .ok (.iload_n 1, 1) := by decide +kernel
theorem dX8_home_2 : decode cX8_home 2 = .ok (.invokevirtual 54, 3) := by decide +kernel
theorem dX8_home_5 : decode cX8_home 5 = .ok (.ifCond .eq 13, 3) := by decide +kernel
theorem dX8_home_8 : decode cX8_home 8 = .ok (.iload_n 2, 1) := by decide +kernel
theorem dX8_home_9 : decode cX8_home 9 = .ok (.iconst 0, 1) := by decide +kernel
theorem dX8_home_10 : decode cX8_home 10 = .ok (.bipush 48, 2) := by decide +kernel
theorem dX8_home_12 : decode cX8_home 12 = .ok (.invokestatic 50, 3) := by decide +kernel
theorem dX8_home_15 : decode cX8_home 15 = .ok (.ifCond .ne 9, 3) := by decide +kernel
theorem dX8_home_18 : decode cX8_home 18 = .ok (.aload_n 0, 1) := by decide +kernel
theorem dX8_home_19 : decode cX8_home 19 = .ok (.iconst 1, 1) := by decide +kernel
theorem dX8_home_20 : decode cX8_home 20 = .ok (.invokevirtual 62, 3) := by decide +kernel
theorem dX8_home_23 : decode cX8_home 23 = .ok (.ireturn, 1) := by decide +kernel
theorem dX8_home_24 : decode cX8_home 24 = .ok (.aload_n 0, 1) := by decide +kernel
theorem dX8_home_25 : decode cX8_home 25 = .ok (.iconst 0, 1) := by decide +kernel
theorem dX8_home_26 : decode cX8_home 26 = .ok (.invokevirtual 200, 3) := by decide +kernel
theorem dX8_home_29 : decode cX8_home 29 = .ok (.iconst 0, 1) := by decide +kernel
theorem dX8_home_30 : decode cX8_home 30 = .ok (.istore_n 3, 1) := by decide +kernel
theorem dX8_home_31 : decode cX8_home 31 = .ok (.iload_n 3, 1) := by decide +kernel
theorem dX8_home_32 : decode cX8_home 32 = .ok (.iload_n 2, 1) := by decide +kernel
theorem dX8_home_33 : decode cX8_home 33 = .ok (.if_icmp .ge 23, 3) := by decide +kernel
theorem dX8_home_36 : decode cX8_home 36 = .ok (.aload_n 0, 1) := by decide +kernel
theorem dX8_home_37 : decode cX8_home 37 = .ok (.iload_n 1, 1) := by decide +kernel
theorem dX8_home_38 : decode cX8_home 38 = .ok (.iconst 2, 1) := by decide +kernel
theorem dX8_home_39 : decode cX8_home 39 = .ok (.invokevirtual 146, 3) := by decide +kernel
theorem dX8_home_42 : decode cX8_home 42 = .ok (.iconst 2, 1) := by decide +kernel
theorem dX8_home_43 : decode cX8_home 43 = .ok (.if_icmp .eq 13, 3) := by decide +kernel
theorem dX8_home_46 : decode cX8_home 46 = .ok (.aload_n 0, 1) := by decide +kernel
theorem dX8_home_47 : decode cX8_home 47 = .ok (.invokevirtual 187, 3) := by decide +kernel
theorem dX8_home_50 : decode cX8_home 50 = .ok (.iinc 3 1, 3) := by decide +kernel
theorem dX8_home_53 : decode cX8_home 53 = .ok (.goto (-22), 3) := by decide +kernel
theorem dX8_home_56 : decode cX8_home 56 = .ok (.aload_n 0, 1) := by decide +kernel
theorem dX8_home_57 : decode cX8_home 57 = .ok (.iload_n 1, 1) := by decide +kernel
theorem dX8_home_58 : decode cX8_home 58 = .ok (.iconst 2, 1) := by decide +kernel
theorem dX8_home_59 : decode cX8_home 59 = .ok (.invokevirtual 146, 3) := by decide +kernel
theorem dX8_home_62 : decode cX8_home 62 = .ok (.iconst 2, 1) := by decide +kernel
theorem dX8_home_63 : decode cX8_home 63 = .ok (.if_icmp .ne 7, 3) := by decide +kernel
theorem dX8_home_66 : decode cX8_home 66 = .ok (.iconst 1, 1) := by decide +kernel
theorem dX8_home_67 : decode cX8_home 67 = .ok (.goto 4, 3) := by decide +kernel
theorem dX8_home_70 : decode cX8_home 70 = .ok (.iconst 0, 1) := by decide +kernel
theorem dX8_home_71 : decode cX8_home 71 = .ok (.istore 4, 2) := by decide +kernel
theorem dX8_home_73 : decode cX8_home 73 = .ok (.aload_n 0, 1) := by decide +kernel
theorem dX8_home_74 : decode cX8_home 74 = .ok (.iconst 0, 1) := by decide +kernel
theorem dX8_home_75 : decode cX8_home 75 = .ok (.invokevirtual 203, 3) := by decide +kernel
theorem dX8_home_78 : decode cX8_home 78 = .ok (.iload 4, 2) := by decide +kernel
theorem dX8_home_80 : decode cX8_home 80 = .ok (.ifCond .eq 7, 3) := by decide +kernel
theorem dX8_home_83 : decode cX8_home 83 = .ok (.iload_n 3, 1) := by decide +kernel
theorem dX8_home_84 : decode cX8_home 84 = .ok (.goto 8, 3) := by decide +kernel
theorem dX8_home_87 : decode cX8_home 87 = .ok (.aload_n 0, 1) := by decide +kernel
theorem dX8_home_88 : decode cX8_home 88 = .ok (.iconst 2, 1) := by decide +kernel
theorem dX8_home_89 : decode cX8_home 89 = .ok (.invokevirtual 62, 3) := by decide +kernel
theorem dX8_home_92 : decode cX8_home 92 = .ok (.ireturn, 1) := by decide +kernel
theorem dX8_loosedAt_0 : decode cX8_loosedAt 0 = .ok (.iload_n 0, 1) := by decide +kernel
theorem dX8_loosedAt_1 : decode cX8_loosedAt 1 = .ok (.istore_n 2, 1) := by decide +kernel
theorem dX8_loosedAt_2 : decode cX8_loosedAt 2 = .ok (.iconst 0, 1) := by decide +kernel
theorem dX8_loosedAt_3 : decode cX8_loosedAt 3 = .ok (.istore_n 3, 1) := by decide +kernel
theorem dX8_loosedAt_4 : decode cX8_loosedAt 4 = .ok (.iload_n 3, 1) := by decide +kernel
theorem dX8_loosedAt_5 : decode cX8_loosedAt 5 = .ok (.iconst 3, 1) := by decide +kernel
theorem dX8_loosedAt_6 : decode cX8_loosedAt 6 = .ok (.if_icmp .ge 24, 3) := by decide +kernel
theorem dX8_loosedAt_9 : decode cX8_loosedAt 9 = .ok (.iload_n 2, 1) := by decide +kernel
theorem dX8_loosedAt_10 : decode cX8_loosedAt 10 = .ok (.bipush 12, 2) := by decide +kernel
theorem dX8_loosedAt_12 : decode cX8_loosedAt 12 = .ok (.irem, 1) := by decide +kernel
theorem dX8_loosedAt_13 : decode cX8_loosedAt 13 = .ok (.iload_n 1, 1) := by decide +kernel
theorem dX8_loosedAt_14 : decode cX8_loosedAt 14 = .ok (.if_icmp .ne 5, 3) := by decide +kernel
theorem dX8_loosedAt_17 : decode cX8_loosedAt 17 = .ok (.iload_n 3, 1) := by decide +kernel
theorem dX8_loosedAt_18 : decode cX8_loosedAt 18 = .ok (.ireturn, 1) := by decide +kernel
theorem dX8_loosedAt_19 : decode cX8_loosedAt 19 = .ok (.iload_n 2, 1) := by decide +kernel
theorem dX8_loosedAt_20 : decode cX8_loosedAt 20 = .ok (.bipush 12, 2) := by decide +kernel
theorem dX8_loosedAt_22 : decode cX8_loosedAt 22 = .ok (.idiv, 1) := by decide +kernel
theorem dX8_loosedAt_23 : decode cX8_loosedAt 23 = .ok (.istore_n 2, 1) := by decide +kernel
theorem dX8_loosedAt_24 : decode cX8_loosedAt 24 = .ok (.iinc 3 1, 3) := by decide +kernel
theorem dX8_loosedAt_27 : decode cX8_loosedAt 27 = .ok (.goto (-23), 3) := by decide +kernel
theorem dX8_loosedAt_30 : decode cX8_loosedAt 30 = .ok (.iconst 3, 1) := by decide +kernel
theorem dX8_loosedAt_31 : decode cX8_loosedAt 31 = .ok (.ireturn, 1) := by decide +kernel
theorem dX8_isWay_0 : decode cX8_isWay 0 = .ok (.iload_n 0, 1) := by decide +kernel
theorem dX8_isWay_1 : decode cX8_isWay 1 = .ok (.bipush 12, 2) := by decide +kernel
theorem dX8_isWay_3 : decode cX8_isWay 3 = .ok (.irem, 1) := by decide +kernel
theorem dX8_isWay_4 : decode cX8_isWay 4 = .ok (.istore_n 1, 1) := by decide +kernel
theorem dX8_isWay_5 : decode cX8_isWay 5 = .ok (.iload_n 0, 1) := by decide +kernel
theorem dX8_isWay_6 : decode cX8_isWay 6 = .ok (.bipush 12, 2) := by decide +kernel
theorem dX8_isWay_8 : decode cX8_isWay 8 = .ok (.idiv, 1) := by decide +kernel
theorem dX8_isWay_9 : decode cX8_isWay 9 = .ok (.bipush 12, 2) := by decide +kernel
theorem dX8_isWay_11 : decode cX8_isWay 11 = .ok (.irem, 1) := by decide +kernel
theorem dX8_isWay_12 : decode cX8_isWay 12 = .ok (.istore_n 2, 1) := by decide +kernel
theorem dX8_isWay_13 : decode cX8_isWay 13 = .ok (.iload_n 0, 1) := by decide +kernel
theorem dX8_isWay_14 : decode cX8_isWay 14 = .ok (.sipush 144, 3) := by decide +kernel
theorem dX8_isWay_17 : decode cX8_isWay 17 = .ok (.idiv, 1) := by decide +kernel
theorem dX8_isWay_18 : decode cX8_isWay 18 = .ok (.istore_n 3, 1) := by decide +kernel
theorem dX8_isWay_19 : decode cX8_isWay 19 = .ok (.iload_n 1, 1) := by decide +kernel
theorem dX8_isWay_20 : decode cX8_isWay 20 = .ok (.bipush 11, 2) := by decide +kernel
theorem dX8_isWay_22 : decode cX8_isWay 22 = .ok (.if_icmp .eq 13, 3) := by decide +kernel
theorem dX8_isWay_25 : decode cX8_isWay 25 = .ok (.iload_n 1, 1) := by decide +kernel
theorem dX8_isWay_26 : decode cX8_isWay 26 = .ok (.iload_n 2, 1) := by decide +kernel
theorem dX8_isWay_27 : decode cX8_isWay 27 = .ok (.if_icmp .eq 41, 3) := by decide +kernel
theorem dX8_isWay_30 : decode cX8_isWay 30 = .ok (.iload_n 1, 1) := by decide +kernel
theorem dX8_isWay_31 : decode cX8_isWay 31 = .ok (.iload_n 3, 1) := by decide +kernel
theorem dX8_isWay_32 : decode cX8_isWay 32 = .ok (.if_icmp .eq 36, 3) := by decide +kernel
theorem dX8_isWay_35 : decode cX8_isWay 35 = .ok (.iload_n 2, 1) := by decide +kernel
theorem dX8_isWay_36 : decode cX8_isWay 36 = .ok (.bipush 11, 2) := by decide +kernel
theorem dX8_isWay_38 : decode cX8_isWay 38 = .ok (.if_icmp .eq 8, 3) := by decide +kernel
theorem dX8_isWay_41 : decode cX8_isWay 41 = .ok (.iload_n 2, 1) := by decide +kernel
theorem dX8_isWay_42 : decode cX8_isWay 42 = .ok (.iload_n 3, 1) := by decide +kernel
theorem dX8_isWay_43 : decode cX8_isWay 43 = .ok (.if_icmp .eq 25, 3) := by decide +kernel
theorem dX8_isWay_46 : decode cX8_isWay 46 = .ok (.iload_n 1, 1) := by decide +kernel
theorem dX8_isWay_47 : decode cX8_isWay 47 = .ok (.bipush 10, 2) := by decide +kernel
theorem dX8_isWay_49 : decode cX8_isWay 49 = .ok (.if_icmp .eq 19, 3) := by decide +kernel
theorem dX8_isWay_52 : decode cX8_isWay 52 = .ok (.iload_n 2, 1) := by decide +kernel
theorem dX8_isWay_53 : decode cX8_isWay 53 = .ok (.bipush 10, 2) := by decide +kernel
theorem dX8_isWay_55 : decode cX8_isWay 55 = .ok (.if_icmp .eq 13, 3) := by decide +kernel
theorem dX8_isWay_58 : decode cX8_isWay 58 = .ok (.iload_n 3, 1) := by decide +kernel
theorem dX8_isWay_59 : decode cX8_isWay 59 = .ok (.bipush 10, 2) := by decide +kernel
theorem dX8_isWay_61 : decode cX8_isWay 61 = .ok (.if_icmp .eq 7, 3) := by decide +kernel
theorem dX8_isWay_64 : decode cX8_isWay 64 = .ok (.iconst 1, 1) := by decide +kernel
theorem dX8_isWay_65 : decode cX8_isWay 65 = .ok (.goto 4, 3) := by decide +kernel
theorem dX8_isWay_68 : decode cX8_isWay 68 = .ok (.iconst 0, 1) := by decide +kernel
theorem dX8_isWay_69 : decode cX8_isWay 69 = .ok (.ireturn, 1) := by decide +kernel
theorem dX8_tries_0 : decode cX8_tries 0 = .ok (.iconst 0, 1) := by decide +kernel
theorem dX8_tries_1 : decode cX8_tries 1 = .ok (.istore 4, 2) := by decide +kernel
theorem dX8_tries_3 : decode cX8_tries 3 = .ok (.iconst 0, 1) := by decide +kernel
theorem dX8_tries_4 : decode cX8_tries 4 = .ok (.istore 5, 2) := by decide +kernel
theorem dX8_tries_6 : decode cX8_tries 6 = .ok (.iconst 0, 1) := by decide +kernel
theorem dX8_tries_7 : decode cX8_tries 7 = .ok (.istore 6, 2) := by decide +kernel
theorem dX8_tries_9 : decode cX8_tries 9 = .ok (.iconst 1, 1) := by decide +kernel
theorem dX8_tries_10 : decode cX8_tries 10 = .ok (.istore 7, 2) := by decide +kernel
theorem dX8_tries_12 : decode cX8_tries 12 = .ok (.iload 7, 2) := by decide +kernel
theorem dX8_tries_14 : decode cX8_tries 14 = .ok (.ifCond .eq 76, 3) := by decide +kernel
theorem dX8_tries_17 : decode cX8_tries 17 = .ok (.iload 6, 2) := by decide +kernel
theorem dX8_tries_19 : decode cX8_tries 19 = .ok (.iload_n 3, 1) := by decide +kernel
theorem dX8_tries_20 : decode cX8_tries 20 = .ok (.if_icmp .ge 70, 3) := by decide +kernel
theorem dX8_tries_23 : decode cX8_tries 23 = .ok (.aload_n 0, 1) := by decide +kernel
theorem dX8_tries_24 : decode cX8_tries 24 = .ok (.iload_n 1, 1) := by decide +kernel
theorem dX8_tries_25 : decode cX8_tries 25 = .ok (.iconst 2, 1) := by decide +kernel
theorem dX8_tries_26 : decode cX8_tries 26 = .ok (.invokevirtual 146, 3) := by decide +kernel
theorem dX8_tries_29 : decode cX8_tries 29 = .ok (.ifCond .ne 61, 3) := by decide +kernel
theorem dX8_tries_32 : decode cX8_tries 32 = .ok (.iload_n 2, 1) := by decide +kernel
theorem dX8_tries_33 : decode cX8_tries 33 = .ok (.iload 6, 2) := by decide +kernel
theorem dX8_tries_35 : decode cX8_tries 35 = .ok (.invokestatic 206, 3) := by decide +kernel
theorem dX8_tries_38 : decode cX8_tries 38 = .ok (.istore 8, 2) := by decide +kernel
theorem dX8_tries_40 : decode cX8_tries 40 = .ok (.iload 8, 2) := by decide +kernel
theorem dX8_tries_42 : decode cX8_tries 42 = .ok (.iconst 3, 1) := by decide +kernel
theorem dX8_tries_43 : decode cX8_tries 43 = .ok (.if_icmp .ge 28, 3) := by decide +kernel
theorem dX8_tries_46 : decode cX8_tries 46 = .ok (.aload_n 0, 1) := by decide +kernel
theorem dX8_tries_47 : decode cX8_tries 47 = .ok (.iconst 3, 1) := by decide +kernel
theorem dX8_tries_48 : decode cX8_tries 48 = .ok (.iload_n 1, 1) := by decide +kernel
theorem dX8_tries_49 : decode cX8_tries 49 = .ok (.imul, 1) := by decide +kernel
theorem dX8_tries_50 : decode cX8_tries 50 = .ok (.iload 8, 2) := by decide +kernel
theorem dX8_tries_52 : decode cX8_tries 52 = .ok (.iadd, 1) := by decide +kernel
theorem dX8_tries_53 : decode cX8_tries 53 = .ok (.invokevirtual 174, 3) := by decide +kernel
theorem dX8_tries_56 : decode cX8_tries 56 = .ok (.istore 7, 2) := by decide +kernel
theorem dX8_tries_58 : decode cX8_tries 58 = .ok (.aload_n 0, 1) := by decide +kernel
theorem dX8_tries_59 : decode cX8_tries 59 = .ok (.iconst 3, 1) := by decide +kernel
theorem dX8_tries_60 : decode cX8_tries 60 = .ok (.iload_n 1, 1) := by decide +kernel
theorem dX8_tries_61 : decode cX8_tries 61 = .ok (.imul, 1) := by decide +kernel
theorem dX8_tries_62 : decode cX8_tries 62 = .ok (.iload 8, 2) := by decide +kernel
theorem dX8_tries_64 : decode cX8_tries 64 = .ok (.iadd, 1) := by decide +kernel
theorem dX8_tries_65 : decode cX8_tries 65 = .ok (.invokevirtual 177, 3) := by decide +kernel
theorem dX8_tries_68 : decode cX8_tries 68 = .ok (.iinc 5 1, 3) := by decide +kernel
theorem dX8_tries_71 : decode cX8_tries 71 = .ok (.iconst 4, 1) := by decide +kernel
theorem dX8_tries_72 : decode cX8_tries 72 = .ok (.iload 4, 2) := by decide +kernel
theorem dX8_tries_74 : decode cX8_tries 74 = .ok (.imul, 1) := by decide +kernel
theorem dX8_tries_75 : decode cX8_tries 75 = .ok (.iload 8, 2) := by decide +kernel
theorem dX8_tries_77 : decode cX8_tries 77 = .ok (.iadd, 1) := by decide +kernel
theorem dX8_tries_78 : decode cX8_tries 78 = .ok (.istore 4, 2) := by decide +kernel
theorem dX8_tries_80 : decode cX8_tries 80 = .ok (.aload_n 0, 1) := by decide +kernel
theorem dX8_tries_81 : decode cX8_tries 81 = .ok (.invokevirtual 187, 3) := by decide +kernel
theorem dX8_tries_84 : decode cX8_tries 84 = .ok (.iinc 6 1, 3) := by decide +kernel
theorem dX8_tries_87 : decode cX8_tries 87 = .ok (.goto (-75), 3) := by decide +kernel
theorem dX8_tries_90 : decode cX8_tries 90 = .ok (.aload_n 0, 1) := by decide +kernel
theorem dX8_tries_91 : decode cX8_tries 91 = .ok (.getfield 209, 3) := by decide +kernel
theorem dX8_tries_94 : decode cX8_tries 94 = .ok (.iconst (-1), 1) := by decide +kernel
theorem dX8_tries_95 : decode cX8_tries 95 = .ok (.if_icmp .eq 48, 3) := by decide +kernel
theorem dX8_tries_98 : decode cX8_tries 98 = .ok (.iload 6, 2) := by decide +kernel
theorem dX8_tries_100 : decode cX8_tries 100 = .ok (.aload_n 0, 1) := by decide +kernel
theorem dX8_tries_101 : decode cX8_tries 101 = .ok (.getfield 209, 3) := by decide +kernel
theorem dX8_tries_104 : decode cX8_tries 104 = .ok (.if_icmp .lt 39, 3) := by decide +kernel
theorem dX8_tries_107 : decode cX8_tries 107 = .ok (.iload 6, 2) := by decide +kernel
theorem dX8_tries_109 : decode cX8_tries 109 = .ok (.aload_n 0, 1) := by decide +kernel
theorem dX8_tries_110 : decode cX8_tries 110 = .ok (.getfield 209, 3) := by decide +kernel
theorem dX8_tries_113 : decode cX8_tries 113 = .ok (.if_icmp .ne 34, 3) := by decide +kernel
theorem dX8_tries_116 : decode cX8_tries 116 = .ok (.iload 5, 2) := by decide +kernel
theorem dX8_tries_118 : decode cX8_tries 118 = .ok (.aload_n 0, 1) := by decide +kernel
theorem dX8_tries_119 : decode cX8_tries 119 = .ok (.getfield 212, 3) := by decide +kernel
theorem dX8_tries_122 : decode cX8_tries 122 = .ok (.if_icmp .lt 21, 3) := by decide +kernel
theorem dX8_tries_125 : decode cX8_tries 125 = .ok (.iload 5, 2) := by decide +kernel
theorem dX8_tries_127 : decode cX8_tries 127 = .ok (.aload_n 0, 1) := by decide +kernel
theorem dX8_tries_128 : decode cX8_tries 128 = .ok (.getfield 212, 3) := by decide +kernel
theorem dX8_tries_131 : decode cX8_tries 131 = .ok (.if_icmp .ne 16, 3) := by decide +kernel
theorem dX8_tries_134 : decode cX8_tries 134 = .ok (.iload 4, 2) := by decide +kernel
theorem dX8_tries_136 : decode cX8_tries 136 = .ok (.aload_n 0, 1) := by decide +kernel
theorem dX8_tries_137 : decode cX8_tries 137 = .ok (.getfield 215, 3) := by decide +kernel
theorem dX8_tries_140 : decode cX8_tries 140 = .ok (.if_icmp .ge 7, 3) := by decide +kernel
theorem dX8_tries_143 : decode cX8_tries 143 = .ok (.iconst 1, 1) := by decide +kernel
theorem dX8_tries_144 : decode cX8_tries 144 = .ok (.goto 4, 3) := by decide +kernel
theorem dX8_tries_147 : decode cX8_tries 147 = .ok (.iconst 0, 1) := by decide +kernel
theorem dX8_tries_148 : decode cX8_tries 148 = .ok (.istore 8, 2) := by decide +kernel
theorem dX8_tries_150 : decode cX8_tries 150 = .ok (.iload 7, 2) := by decide +kernel
theorem dX8_tries_152 : decode cX8_tries 152 = .ok (.ifCond .eq 36, 3) := by decide +kernel
theorem dX8_tries_155 : decode cX8_tries 155 = .ok (.aload_n 0, 1) := by decide +kernel
theorem dX8_tries_156 : decode cX8_tries 156 = .ok (.iload_n 1, 1) := by decide +kernel
theorem dX8_tries_157 : decode cX8_tries 157 = .ok (.iconst 2, 1) := by decide +kernel
theorem dX8_tries_158 : decode cX8_tries 158 = .ok (.invokevirtual 146, 3) := by decide +kernel
theorem dX8_tries_161 : decode cX8_tries 161 = .ok (.iconst 2, 1) := by decide +kernel
theorem dX8_tries_162 : decode cX8_tries 162 = .ok (.if_icmp .ne 26, 3) := by decide +kernel
theorem dX8_tries_165 : decode cX8_tries 165 = .ok (.iload 8, 2) := by decide +kernel
theorem dX8_tries_167 : decode cX8_tries 167 = .ok (.ifCond .eq 21, 3) := by decide +kernel
theorem dX8_tries_170 : decode cX8_tries 170 = .ok (.aload_n 0, 1) := by decide +kernel
theorem dX8_tries_171 : decode cX8_tries 171 = .ok (.iload 6, 2) := by decide +kernel
theorem dX8_tries_173 : decode cX8_tries 173 = .ok (.putfield 209, 3) := by decide +kernel
theorem dX8_tries_176 : decode cX8_tries 176 = .ok (.aload_n 0, 1) := by decide +kernel
theorem dX8_tries_177 : decode cX8_tries 177 = .ok (.iload 5, 2) := by decide +kernel
theorem dX8_tries_179 : decode cX8_tries 179 = .ok (.putfield 212, 3) := by decide +kernel
theorem dX8_tries_182 : decode cX8_tries 182 = .ok (.aload_n 0, 1) := by decide +kernel
theorem dX8_tries_183 : decode cX8_tries 183 = .ok (.iload 4, 2) := by decide +kernel
theorem dX8_tries_185 : decode cX8_tries 185 = .ok (.putfield 215, 3) := by decide +kernel
theorem dX8_tries_188 : decode cX8_tries 188 = .ok (.return_, 1) := by decide +kernel
theorem dX8_findSoonest_0 : decode cX8_findSoonest 0 = .ok (.aload_n 0, 1) := by decide +kernel
theorem dX8_findSoonest_1 : decode cX8_findSoonest 1 = .ok (.iconst (-1), 1) := by decide +kernel
theorem dX8_findSoonest_2 : decode cX8_findSoonest 2 = .ok (.putfield 209, 3) := by decide +kernel
theorem dX8_findSoonest_5 : decode cX8_findSoonest 5 = .ok (.aload_n 0, 1) := by decide +kernel
theorem dX8_findSoonest_6 : decode cX8_findSoonest 6 = .ok (.iconst 0, 1) := by decide +kernel
theorem dX8_findSoonest_7 : decode cX8_findSoonest 7 = .ok (.putfield 212, 3) := by decide +kernel
theorem dX8_findSoonest_10 : decode cX8_findSoonest 10 = .ok (.aload_n 0, 1) := by decide +kernel
theorem dX8_findSoonest_11 : decode cX8_findSoonest 11 = .ok (.iconst 0, 1) := by decide +kernel
theorem dX8_findSoonest_12 : decode cX8_findSoonest 12 = .ok (.putfield 215, 3) := by decide +kernel
theorem dX8_findSoonest_15 : decode cX8_findSoonest 15 = .ok (.aload_n 0, 1) := by decide +kernel
theorem dX8_findSoonest_16 : decode cX8_findSoonest 16 = .ok (.iconst 0, 1) := by decide +kernel
theorem dX8_findSoonest_17 : decode cX8_findSoonest 17 = .ok (.invokevirtual 200, 3) := by decide +kernel
theorem dX8_findSoonest_20 : decode cX8_findSoonest 20 = .ok (.iconst 0, 1) := by decide +kernel
theorem dX8_findSoonest_21 : decode cX8_findSoonest 21 = .ok (.istore_n 3, 1) := by decide +kernel
theorem dX8_findSoonest_22 : decode cX8_findSoonest 22 = .ok (.iload_n 3, 1) := by decide +kernel
theorem dX8_findSoonest_23 : decode cX8_findSoonest 23 = .ok (.sipush 1728, 3) := by decide +kernel
theorem dX8_findSoonest_26 : decode cX8_findSoonest 26 = .ok (.if_icmp .ge 28, 3) := by decide +kernel
theorem dX8_findSoonest_29 : decode cX8_findSoonest 29 = .ok (.iload_n 3, 1) := by decide +kernel
theorem dX8_findSoonest_30 : decode cX8_findSoonest 30 = .ok (.invokestatic 218, 3) := by decide +kernel
theorem dX8_findSoonest_33 : decode cX8_findSoonest 33 = .ok (.ifCond .eq 15, 3) := by decide +kernel
theorem dX8_findSoonest_36 : decode cX8_findSoonest 36 = .ok (.aload_n 0, 1) := by decide +kernel
theorem dX8_findSoonest_37 : decode cX8_findSoonest 37 = .ok (.iload_n 1, 1) := by decide +kernel
theorem dX8_findSoonest_38 : decode cX8_findSoonest 38 = .ok (.iload_n 3, 1) := by decide +kernel
theorem dX8_findSoonest_39 : decode cX8_findSoonest 39 = .ok (.iload_n 2, 1) := by decide +kernel
theorem dX8_findSoonest_40 : decode cX8_findSoonest 40 = .ok (.invokevirtual 221, 3) := by decide +kernel
theorem dX8_findSoonest_43 : decode cX8_findSoonest 43 = .ok (.aload_n 0, 1) := by decide +kernel
theorem dX8_findSoonest_44 : decode cX8_findSoonest 44 = .ok (.iconst 0, 1) := by decide +kernel
theorem dX8_findSoonest_45 : decode cX8_findSoonest 45 = .ok (.invokevirtual 203, 3) := by decide +kernel
theorem dX8_findSoonest_48 : decode cX8_findSoonest 48 = .ok (.iinc 3 1, 3) := by decide +kernel
theorem dX8_findSoonest_51 : decode cX8_findSoonest 51 = .ok (.goto (-29), 3) := by decide +kernel
theorem dX8_findSoonest_54 : decode cX8_findSoonest 54 = .ok (.return_, 1) := by decide +kernel
theorem dX8_soonest_0 : decode cX8_soonest 0 = .ok (.aload_n 0, 1) := by decide +kernel
theorem dX8_soonest_1 : decode cX8_soonest 1 = .ok (.iload_n 1, 1) := by decide +kernel
theorem dX8_soonest_2 : decode cX8_soonest 2 = .ok (.invokevirtual 54, 3) := by decide +kernel
theorem dX8_soonest_5 : decode cX8_soonest 5 = .ok (.ifCond .eq 22, 3) := by decide +kernel
theorem dX8_soonest_8 : decode cX8_soonest 8 = .ok (.iload_n 2, 1) := by decide +kernel
theorem dX8_soonest_9 : decode cX8_soonest 9 = .ok (.iconst 1, 1) := by decide +kernel
theorem dX8_soonest_10 : decode cX8_soonest 10 = .ok (.bipush 10, 2) := by decide +kernel
theorem dX8_soonest_12 : decode cX8_soonest 12 = .ok (.invokestatic 50, 3) := by decide +kernel
theorem dX8_soonest_15 : decode cX8_soonest 15 = .ok (.ifCond .eq 12, 3) := by decide +kernel
theorem dX8_soonest_18 : decode cX8_soonest 18 = .ok (.iload_n 3, 1) := by decide +kernel
theorem dX8_soonest_19 : decode cX8_soonest 19 = .ok (.iconst 0, 1) := by decide +kernel
theorem dX8_soonest_20 : decode cX8_soonest 20 = .ok (.iconst 2, 1) := by decide +kernel
theorem dX8_soonest_21 : decode cX8_soonest 21 = .ok (.invokestatic 50, 3) := by decide +kernel
theorem dX8_soonest_24 : decode cX8_soonest 24 = .ok (.ifCond .ne 9, 3) := by decide +kernel
theorem dX8_soonest_27 : decode cX8_soonest 27 = .ok (.aload_n 0, 1) := by decide +kernel
theorem dX8_soonest_28 : decode cX8_soonest 28 = .ok (.iconst 1, 1) := by decide +kernel
theorem dX8_soonest_29 : decode cX8_soonest 29 = .ok (.invokevirtual 62, 3) := by decide +kernel
theorem dX8_soonest_32 : decode cX8_soonest 32 = .ok (.ireturn, 1) := by decide +kernel
theorem dX8_soonest_33 : decode cX8_soonest 33 = .ok (.aload_n 0, 1) := by decide +kernel
theorem dX8_soonest_34 : decode cX8_soonest 34 = .ok (.iload_n 1, 1) := by decide +kernel
theorem dX8_soonest_35 : decode cX8_soonest 35 = .ok (.iload_n 2, 1) := by decide +kernel
theorem dX8_soonest_36 : decode cX8_soonest 36 = .ok (.invokevirtual 224, 3) := by decide +kernel
theorem dX8_soonest_39 : decode cX8_soonest 39 = .ok (.aload_n 0, 1) := by decide +kernel
theorem dX8_soonest_40 : decode cX8_soonest 40 = .ok (.getfield 209, 3) := by decide +kernel
theorem dX8_soonest_43 : decode cX8_soonest 43 = .ok (.iconst (-1), 1) := by decide +kernel
theorem dX8_soonest_44 : decode cX8_soonest 44 = .ok (.if_icmp .ne 9, 3) := by decide +kernel
theorem dX8_soonest_47 : decode cX8_soonest 47 = .ok (.aload_n 0, 1) := by decide +kernel
theorem dX8_soonest_48 : decode cX8_soonest 48 = .ok (.iconst 2, 1) := by decide +kernel
theorem dX8_soonest_49 : decode cX8_soonest 49 = .ok (.invokevirtual 62, 3) := by decide +kernel
theorem dX8_soonest_52 : decode cX8_soonest 52 = .ok (.ireturn, 1) := by decide +kernel
theorem dX8_soonest_53 : decode cX8_soonest 53 = .ok (.aload_n 0, 1) := by decide +kernel
theorem dX8_soonest_54 : decode cX8_soonest 54 = .ok (.getfield 215, 3) := by decide +kernel
theorem dX8_soonest_57 : decode cX8_soonest 57 = .ok (.istore 4, 2) := by decide +kernel
theorem dX8_soonest_59 : decode cX8_soonest 59 = .ok (.iconst 1, 1) := by decide +kernel
theorem dX8_soonest_60 : decode cX8_soonest 60 = .ok (.istore 5, 2) := by decide +kernel
theorem dX8_soonest_62 : decode cX8_soonest 62 = .ok (.iload 5, 2) := by decide +kernel
theorem dX8_soonest_64 : decode cX8_soonest 64 = .ok (.aload_n 0, 1) := by decide +kernel
theorem dX8_soonest_65 : decode cX8_soonest 65 = .ok (.getfield 209, 3) := by decide +kernel
theorem dX8_soonest_68 : decode cX8_soonest 68 = .ok (.if_icmp .ge 15, 3) := by decide +kernel
theorem dX8_soonest_71 : decode cX8_soonest 71 = .ok (.iload 4, 2) := by decide +kernel
theorem dX8_soonest_73 : decode cX8_soonest 73 = .ok (.iconst 4, 1) := by decide +kernel
theorem dX8_soonest_74 : decode cX8_soonest 74 = .ok (.idiv, 1) := by decide +kernel
theorem dX8_soonest_75 : decode cX8_soonest 75 = .ok (.istore 4, 2) := by decide +kernel
theorem dX8_soonest_77 : decode cX8_soonest 77 = .ok (.iinc 5 1, 3) := by decide +kernel
theorem dX8_soonest_80 : decode cX8_soonest 80 = .ok (.goto (-18), 3) := by decide +kernel
theorem dX8_soonest_83 : decode cX8_soonest 83 = .ok (.iload_n 3, 1) := by decide +kernel
theorem dX8_soonest_84 : decode cX8_soonest 84 = .ok (.ifCond .ne 10, 3) := by decide +kernel
theorem dX8_soonest_87 : decode cX8_soonest 87 = .ok (.aload_n 0, 1) := by decide +kernel
theorem dX8_soonest_88 : decode cX8_soonest 88 = .ok (.getfield 209, 3) := by decide +kernel
theorem dX8_soonest_91 : decode cX8_soonest 91 = .ok (.goto 28, 3) := by decide +kernel
theorem dX8_soonest_94 : decode cX8_soonest 94 = .ok (.iload_n 3, 1) := by decide +kernel
theorem dX8_soonest_95 : decode cX8_soonest 95 = .ok (.iconst 1, 1) := by decide +kernel
theorem dX8_soonest_96 : decode cX8_soonest 96 = .ok (.if_icmp .ne 19, 3) := by decide +kernel
theorem dX8_soonest_99 : decode cX8_soonest 99 = .ok (.aload_n 0, 1) := by decide +kernel
theorem dX8_soonest_100 : decode cX8_soonest 100 = .ok (.getfield 209, 3) := by decide +kernel
theorem dX8_soonest_103 : decode cX8_soonest 103 = .ok (.ifCond .ne 7, 3) := by decide +kernel
theorem dX8_soonest_106 : decode cX8_soonest 106 = .ok (.iconst 3, 1) := by decide +kernel
theorem dX8_soonest_107 : decode cX8_soonest 107 = .ok (.goto 12, 3) := by decide +kernel
theorem dX8_soonest_110 : decode cX8_soonest 110 = .ok (.iload 4, 2) := by decide +kernel
theorem dX8_soonest_112 : decode cX8_soonest 112 = .ok (.goto 7, 3) := by decide +kernel
theorem dX8_soonest_115 : decode cX8_soonest 115 = .ok (.aload_n 0, 1) := by decide +kernel
theorem dX8_soonest_116 : decode cX8_soonest 116 = .ok (.getfield 212, 3) := by decide +kernel
theorem dX8_soonest_119 : decode cX8_soonest 119 = .ok (.ireturn, 1) := by decide +kernel
theorem dX8_bestKnot_0 : decode cX8_bestKnot 0 = .ok (.iload_n 1, 1) := by decide +kernel
theorem dX8_bestKnot_1 : decode cX8_bestKnot 1 = .ok (.iconst 1, 1) := by decide +kernel
theorem dX8_bestKnot_2 : decode cX8_bestKnot 2 = .ok (.bipush 24, 2) := by decide +kernel
theorem dX8_bestKnot_4 : decode cX8_bestKnot 4 = .ok (.invokestatic 50, 3) := by decide +kernel
theorem dX8_bestKnot_7 : decode cX8_bestKnot 7 = .ok (.ifCond .eq 12, 3) := by decide +kernel
theorem dX8_bestKnot_10 : decode cX8_bestKnot 10 = .ok (.iload_n 2, 1) := by decide +kernel
theorem dX8_bestKnot_11 : decode cX8_bestKnot 11 = .ok (.iconst 0, 1) := by decide +kernel
theorem dX8_bestKnot_12 : decode cX8_bestKnot 12 = .ok (.iconst 1, 1) := by decide +kernel
theorem dX8_bestKnot_13 : decode cX8_bestKnot 13 = .ok (.invokestatic 50, 3) := by decide +kernel
theorem dX8_bestKnot_16 : decode cX8_bestKnot 16 = .ok (.ifCond .ne 9, 3) := by decide +kernel
theorem dX8_bestKnot_19 : decode cX8_bestKnot 19 = .ok (.aload_n 0, 1) := by decide +kernel
theorem dX8_bestKnot_20 : decode cX8_bestKnot 20 = .ok (.iconst 1, 1) := by decide +kernel
theorem dX8_bestKnot_21 : decode cX8_bestKnot 21 = .ok (.invokevirtual 62, 3) := by decide +kernel
theorem dX8_bestKnot_24 : decode cX8_bestKnot 24 = .ok (.ireturn, 1) := by decide +kernel
theorem dX8_bestKnot_25 : decode cX8_bestKnot 25 = .ok (.aload_n 0, 1) := by decide +kernel
theorem dX8_bestKnot_26 : decode cX8_bestKnot 26 = .ok (.iconst 0, 1) := by decide +kernel
theorem dX8_bestKnot_27 : decode cX8_bestKnot 27 = .ok (.invokevirtual 200, 3) := by decide +kernel
theorem dX8_bestKnot_30 : decode cX8_bestKnot 30 = .ok (.aload_n 0, 1) := by decide +kernel
theorem dX8_bestKnot_31 : decode cX8_bestKnot 31 = .ok (.iload_n 1, 1) := by decide +kernel
theorem dX8_bestKnot_32 : decode cX8_bestKnot 32 = .ok (.invokevirtual 190, 3) := by decide +kernel
theorem dX8_bestKnot_35 : decode cX8_bestKnot 35 = .ok (.aload_n 0, 1) := by decide +kernel
theorem dX8_bestKnot_36 : decode cX8_bestKnot 36 = .ok (.iconst 2, 1) := by decide +kernel
theorem dX8_bestKnot_37 : decode cX8_bestKnot 37 = .ok (.invokevirtual 193, 3) := by decide +kernel
theorem dX8_bestKnot_40 : decode cX8_bestKnot 40 = .ok (.istore_n 3, 1) := by decide +kernel
theorem dX8_bestKnot_41 : decode cX8_bestKnot 41 = .ok (.aload_n 0, 1) := by decide +kernel
theorem dX8_bestKnot_42 : decode cX8_bestKnot 42 = .ok (.iconst 0, 1) := by decide +kernel
theorem dX8_bestKnot_43 : decode cX8_bestKnot 43 = .ok (.invokevirtual 203, 3) := by decide +kernel
theorem dX8_bestKnot_46 : decode cX8_bestKnot 46 = .ok (.iconst (-1), 1) := by decide +kernel
theorem dX8_bestKnot_47 : decode cX8_bestKnot 47 = .ok (.istore 4, 2) := by decide +kernel
theorem dX8_bestKnot_49 : decode cX8_bestKnot 49 = .ok (.iconst 0, 1) := by decide +kernel
theorem dX8_bestKnot_50 : decode cX8_bestKnot 50 = .ok (.istore 5, 2) := by decide +kernel
theorem dX8_bestKnot_52 : decode cX8_bestKnot 52 = .ok (.iload 5, 2) := by decide +kernel
theorem dX8_bestKnot_54 : decode cX8_bestKnot 54 = .ok (.iconst 3, 1) := by decide +kernel
theorem dX8_bestKnot_55 : decode cX8_bestKnot 55 = .ok (.aload_n 0, 1) := by decide +kernel
theorem dX8_bestKnot_56 : decode cX8_bestKnot 56 = .ok (.getfield 7, 3) := by decide +kernel
theorem dX8_bestKnot_59 : decode cX8_bestKnot 59 = .ok (.iconst 0, 1) := by decide +kernel
theorem dX8_bestKnot_60 : decode cX8_bestKnot 60 = .ok (.iaload, 1) := by decide +kernel
theorem dX8_bestKnot_61 : decode cX8_bestKnot 61 = .ok (.imul, 1) := by decide +kernel
theorem dX8_bestKnot_62 : decode cX8_bestKnot 62 = .ok (.if_icmp .ge 71, 3) := by decide +kernel
theorem dX8_bestKnot_65 : decode cX8_bestKnot 65 = .ok (.aload_n 0, 1) := by decide +kernel
theorem dX8_bestKnot_66 : decode cX8_bestKnot 66 = .ok (.iload 5, 2) := by decide +kernel
theorem dX8_bestKnot_68 : decode cX8_bestKnot 68 = .ok (.invokevirtual 174, 3) := by decide +kernel
theorem dX8_bestKnot_71 : decode cX8_bestKnot 71 = .ok (.ifCond .eq 56, 3) := by decide +kernel
theorem dX8_bestKnot_74 : decode cX8_bestKnot 74 = .ok (.aload_n 0, 1) := by decide +kernel
theorem dX8_bestKnot_75 : decode cX8_bestKnot 75 = .ok (.iload 5, 2) := by decide +kernel
theorem dX8_bestKnot_77 : decode cX8_bestKnot 77 = .ok (.invokevirtual 177, 3) := by decide +kernel
theorem dX8_bestKnot_80 : decode cX8_bestKnot 80 = .ok (.aload_n 0, 1) := by decide +kernel
theorem dX8_bestKnot_81 : decode cX8_bestKnot 81 = .ok (.iload_n 1, 1) := by decide +kernel
theorem dX8_bestKnot_82 : decode cX8_bestKnot 82 = .ok (.invokevirtual 190, 3) := by decide +kernel
theorem dX8_bestKnot_85 : decode cX8_bestKnot 85 = .ok (.aload_n 0, 1) := by decide +kernel
theorem dX8_bestKnot_86 : decode cX8_bestKnot 86 = .ok (.iconst 2, 1) := by decide +kernel
theorem dX8_bestKnot_87 : decode cX8_bestKnot 87 = .ok (.invokevirtual 193, 3) := by decide +kernel
theorem dX8_bestKnot_90 : decode cX8_bestKnot 90 = .ok (.iload_n 3, 1) := by decide +kernel
theorem dX8_bestKnot_91 : decode cX8_bestKnot 91 = .ok (.if_icmp .le 8, 3) := by decide +kernel
theorem dX8_bestKnot_94 : decode cX8_bestKnot 94 = .ok (.iload 5, 2) := by decide +kernel
theorem dX8_bestKnot_96 : decode cX8_bestKnot 96 = .ok (.goto 5, 3) := by decide +kernel
theorem dX8_bestKnot_99 : decode cX8_bestKnot 99 = .ok (.iload 4, 2) := by decide +kernel
theorem dX8_bestKnot_101 : decode cX8_bestKnot 101 = .ok (.istore 4, 2) := by decide +kernel
theorem dX8_bestKnot_103 : decode cX8_bestKnot 103 = .ok (.aload_n 0, 1) := by decide +kernel
theorem dX8_bestKnot_104 : decode cX8_bestKnot 104 = .ok (.iconst 2, 1) := by decide +kernel
theorem dX8_bestKnot_105 : decode cX8_bestKnot 105 = .ok (.invokevirtual 193, 3) := by decide +kernel
theorem dX8_bestKnot_108 : decode cX8_bestKnot 108 = .ok (.iload_n 3, 1) := by decide +kernel
theorem dX8_bestKnot_109 : decode cX8_bestKnot 109 = .ok (.if_icmp .le 11, 3) := by decide +kernel
theorem dX8_bestKnot_112 : decode cX8_bestKnot 112 = .ok (.aload_n 0, 1) := by decide +kernel
theorem dX8_bestKnot_113 : decode cX8_bestKnot 113 = .ok (.iconst 2, 1) := by decide +kernel
theorem dX8_bestKnot_114 : decode cX8_bestKnot 114 = .ok (.invokevirtual 193, 3) := by decide +kernel
theorem dX8_bestKnot_117 : decode cX8_bestKnot 117 = .ok (.goto 4, 3) := by decide +kernel
theorem dX8_bestKnot_120 : decode cX8_bestKnot 120 = .ok (.iload_n 3, 1) := by decide +kernel
theorem dX8_bestKnot_121 : decode cX8_bestKnot 121 = .ok (.istore_n 3, 1) := by decide +kernel
theorem dX8_bestKnot_122 : decode cX8_bestKnot 122 = .ok (.aload_n 0, 1) := by decide +kernel
theorem dX8_bestKnot_123 : decode cX8_bestKnot 123 = .ok (.iconst 0, 1) := by decide +kernel
theorem dX8_bestKnot_124 : decode cX8_bestKnot 124 = .ok (.invokevirtual 203, 3) := by decide +kernel
theorem dX8_bestKnot_127 : decode cX8_bestKnot 127 = .ok (.iinc 5 1, 3) := by decide +kernel
theorem dX8_bestKnot_130 : decode cX8_bestKnot 130 = .ok (.goto (-78), 3) := by decide +kernel
theorem dX8_bestKnot_133 : decode cX8_bestKnot 133 = .ok (.iload 4, 2) := by decide +kernel
theorem dX8_bestKnot_135 : decode cX8_bestKnot 135 = .ok (.iconst (-1), 1) := by decide +kernel
theorem dX8_bestKnot_136 : decode cX8_bestKnot 136 = .ok (.if_icmp .ne 9, 3) := by decide +kernel
theorem dX8_bestKnot_139 : decode cX8_bestKnot 139 = .ok (.aload_n 0, 1) := by decide +kernel
theorem dX8_bestKnot_140 : decode cX8_bestKnot 140 = .ok (.iconst 2, 1) := by decide +kernel
theorem dX8_bestKnot_141 : decode cX8_bestKnot 141 = .ok (.invokevirtual 62, 3) := by decide +kernel
theorem dX8_bestKnot_144 : decode cX8_bestKnot 144 = .ok (.ireturn, 1) := by decide +kernel
theorem dX8_bestKnot_145 : decode cX8_bestKnot 145 = .ok (.iload_n 2, 1) := by decide +kernel
theorem dX8_bestKnot_146 : decode cX8_bestKnot 146 = .ok (.ifCond .ne 18, 3) := by decide +kernel
theorem dX8_bestKnot_149 : decode cX8_bestKnot 149 = .ok (.bipush 10, 2) := by decide +kernel
theorem dX8_bestKnot_151 : decode cX8_bestKnot 151 = .ok (.iload 4, 2) := by decide +kernel
theorem dX8_bestKnot_153 : decode cX8_bestKnot 153 = .ok (.iconst 3, 1) := by decide +kernel
theorem dX8_bestKnot_154 : decode cX8_bestKnot 154 = .ok (.idiv, 1) := by decide +kernel
theorem dX8_bestKnot_155 : decode cX8_bestKnot 155 = .ok (.imul, 1) := by decide +kernel
theorem dX8_bestKnot_156 : decode cX8_bestKnot 156 = .ok (.iload 4, 2) := by decide +kernel
theorem dX8_bestKnot_158 : decode cX8_bestKnot 158 = .ok (.iconst 3, 1) := by decide +kernel
theorem dX8_bestKnot_159 : decode cX8_bestKnot 159 = .ok (.irem, 1) := by decide +kernel
theorem dX8_bestKnot_160 : decode cX8_bestKnot 160 = .ok (.iadd, 1) := by decide +kernel
theorem dX8_bestKnot_161 : decode cX8_bestKnot 161 = .ok (.goto 4, 3) := by decide +kernel
theorem dX8_bestKnot_164 : decode cX8_bestKnot 164 = .ok (.iload_n 3, 1) := by decide +kernel
theorem dX8_bestKnot_165 : decode cX8_bestKnot 165 = .ok (.ireturn, 1) := by decide +kernel
theorem dX8_lieSo_0 : decode cX8_lieSo 0 = .ok (.iconst 1, 1) := by decide +kernel
theorem dX8_lieSo_1 : decode cX8_lieSo 1 = .ok (.istore_n 2, 1) := by decide +kernel
theorem dX8_lieSo_2 : decode cX8_lieSo 2 = .ok (.iconst 0, 1) := by decide +kernel
theorem dX8_lieSo_3 : decode cX8_lieSo 3 = .ok (.istore_n 3, 1) := by decide +kernel
theorem dX8_lieSo_4 : decode cX8_lieSo 4 = .ok (.iload_n 3, 1) := by decide +kernel
theorem dX8_lieSo_5 : decode cX8_lieSo 5 = .ok (.aload_n 0, 1) := by decide +kernel
theorem dX8_lieSo_6 : decode cX8_lieSo 6 = .ok (.getfield 7, 3) := by decide +kernel
theorem dX8_lieSo_9 : decode cX8_lieSo 9 = .ok (.iconst 0, 1) := by decide +kernel
theorem dX8_lieSo_10 : decode cX8_lieSo 10 = .ok (.iaload, 1) := by decide +kernel
theorem dX8_lieSo_11 : decode cX8_lieSo 11 = .ok (.if_icmp .ge 39, 3) := by decide +kernel
theorem dX8_lieSo_14 : decode cX8_lieSo 14 = .ok (.iload_n 2, 1) := by decide +kernel
theorem dX8_lieSo_15 : decode cX8_lieSo 15 = .ok (.ifCond .eq 27, 3) := by decide +kernel
theorem dX8_lieSo_18 : decode cX8_lieSo 18 = .ok (.aload_n 0, 1) := by decide +kernel
theorem dX8_lieSo_19 : decode cX8_lieSo 19 = .ok (.getfield 43, 3) := by decide +kernel
theorem dX8_lieSo_22 : decode cX8_lieSo 22 = .ok (.bipush 24, 2) := by decide +kernel
theorem dX8_lieSo_24 : decode cX8_lieSo 24 = .ok (.iload_n 1, 1) := by decide +kernel
theorem dX8_lieSo_25 : decode cX8_lieSo 25 = .ok (.imul, 1) := by decide +kernel
theorem dX8_lieSo_26 : decode cX8_lieSo 26 = .ok (.iload_n 3, 1) := by decide +kernel
theorem dX8_lieSo_27 : decode cX8_lieSo 27 = .ok (.iadd, 1) := by decide +kernel
theorem dX8_lieSo_28 : decode cX8_lieSo 28 = .ok (.iaload, 1) := by decide +kernel
theorem dX8_lieSo_29 : decode cX8_lieSo 29 = .ok (.aload_n 0, 1) := by decide +kernel
theorem dX8_lieSo_30 : decode cX8_lieSo 30 = .ok (.iload_n 3, 1) := by decide +kernel
theorem dX8_lieSo_31 : decode cX8_lieSo 31 = .ok (.iconst 0, 1) := by decide +kernel
theorem dX8_lieSo_32 : decode cX8_lieSo 32 = .ok (.invokevirtual 146, 3) := by decide +kernel
theorem dX8_lieSo_35 : decode cX8_lieSo 35 = .ok (.if_icmp .ne 7, 3) := by decide +kernel
theorem dX8_lieSo_38 : decode cX8_lieSo 38 = .ok (.iconst 1, 1) := by decide +kernel
theorem dX8_lieSo_39 : decode cX8_lieSo 39 = .ok (.goto 4, 3) := by decide +kernel
theorem dX8_lieSo_42 : decode cX8_lieSo 42 = .ok (.iconst 0, 1) := by decide +kernel
theorem dX8_lieSo_43 : decode cX8_lieSo 43 = .ok (.istore_n 2, 1) := by decide +kernel
theorem dX8_lieSo_44 : decode cX8_lieSo 44 = .ok (.iinc 3 1, 3) := by decide +kernel
theorem dX8_lieSo_47 : decode cX8_lieSo 47 = .ok (.goto (-43), 3) := by decide +kernel
theorem dX8_lieSo_50 : decode cX8_lieSo 50 = .ok (.iload_n 2, 1) := by decide +kernel
theorem dX8_lieSo_51 : decode cX8_lieSo 51 = .ok (.ireturn, 1) := by decide +kernel
theorem dX8_lieBy_0 : decode cX8_lieBy 0 = .ok (.aload_n 0, 1) := by decide +kernel
theorem dX8_lieBy_1 : decode cX8_lieBy 1 = .ok (.iload 4, 2) := by decide +kernel
theorem dX8_lieBy_3 : decode cX8_lieBy 3 = .ok (.invokevirtual 190, 3) := by decide +kernel
theorem dX8_lieBy_6 : decode cX8_lieBy 6 = .ok (.aload_n 0, 1) := by decide +kernel
theorem dX8_lieBy_7 : decode cX8_lieBy 7 = .ok (.iload_n 3, 1) := by decide +kernel
theorem dX8_lieBy_8 : decode cX8_lieBy 8 = .ok (.invokevirtual 174, 3) := by decide +kernel
theorem dX8_lieBy_11 : decode cX8_lieBy 11 = .ok (.istore 5, 2) := by decide +kernel
theorem dX8_lieBy_13 : decode cX8_lieBy 13 = .ok (.iload 5, 2) := by decide +kernel
theorem dX8_lieBy_15 : decode cX8_lieBy 15 = .ok (.ifCond .eq 16, 3) := by decide +kernel
theorem dX8_lieBy_18 : decode cX8_lieBy 18 = .ok (.aload_n 0, 1) := by decide +kernel
theorem dX8_lieBy_19 : decode cX8_lieBy 19 = .ok (.iload_n 3, 1) := by decide +kernel
theorem dX8_lieBy_20 : decode cX8_lieBy 20 = .ok (.invokevirtual 177, 3) := by decide +kernel
theorem dX8_lieBy_23 : decode cX8_lieBy 23 = .ok (.aload_n 0, 1) := by decide +kernel
theorem dX8_lieBy_24 : decode cX8_lieBy 24 = .ok (.iload_n 2, 1) := by decide +kernel
theorem dX8_lieBy_25 : decode cX8_lieBy 25 = .ok (.iload 4, 2) := by decide +kernel
theorem dX8_lieBy_27 : decode cX8_lieBy 27 = .ok (.isub, 1) := by decide +kernel
theorem dX8_lieBy_28 : decode cX8_lieBy 28 = .ok (.invokevirtual 190, 3) := by decide +kernel
theorem dX8_lieBy_31 : decode cX8_lieBy 31 = .ok (.iload 5, 2) := by decide +kernel
theorem dX8_lieBy_33 : decode cX8_lieBy 33 = .ok (.ifCond .eq 15, 3) := by decide +kernel
theorem dX8_lieBy_36 : decode cX8_lieBy 36 = .ok (.aload_n 0, 1) := by decide +kernel
theorem dX8_lieBy_37 : decode cX8_lieBy 37 = .ok (.iload_n 1, 1) := by decide +kernel
theorem dX8_lieBy_38 : decode cX8_lieBy 38 = .ok (.invokevirtual 227, 3) := by decide +kernel
theorem dX8_lieBy_41 : decode cX8_lieBy 41 = .ok (.ifCond .eq 7, 3) := by decide +kernel
theorem dX8_lieBy_44 : decode cX8_lieBy 44 = .ok (.iconst 1, 1) := by decide +kernel
theorem dX8_lieBy_45 : decode cX8_lieBy 45 = .ok (.goto 4, 3) := by decide +kernel
theorem dX8_lieBy_48 : decode cX8_lieBy 48 = .ok (.iconst 0, 1) := by decide +kernel
theorem dX8_lieBy_49 : decode cX8_lieBy 49 = .ok (.istore 6, 2) := by decide +kernel
theorem dX8_lieBy_51 : decode cX8_lieBy 51 = .ok (.aload_n 0, 1) := by decide +kernel
theorem dX8_lieBy_52 : decode cX8_lieBy 52 = .ok (.iconst 0, 1) := by decide +kernel
theorem dX8_lieBy_53 : decode cX8_lieBy 53 = .ok (.invokevirtual 203, 3) := by decide +kernel
theorem dX8_lieBy_56 : decode cX8_lieBy 56 = .ok (.iload 6, 2) := by decide +kernel
theorem dX8_lieBy_58 : decode cX8_lieBy 58 = .ok (.ireturn, 1) := by decide +kernel
theorem dX8_who_0 : decode cX8_who 0 = .ok (.iload_n 1, 1) := by decide +kernel
theorem dX8_who_1 : decode cX8_who 1 = .ok (.invokestatic 230, 3) := by decide +kernel
theorem dX8_who_4 : decode cX8_who 4 = .ok (.ifCond .eq 22, 3) := by decide +kernel
theorem dX8_who_7 : decode cX8_who 7 = .ok (.iload_n 2, 1) := by decide +kernel
theorem dX8_who_8 : decode cX8_who 8 = .ok (.iconst 1, 1) := by decide +kernel
theorem dX8_who_9 : decode cX8_who 9 = .ok (.bipush 24, 2) := by decide +kernel
theorem dX8_who_11 : decode cX8_who 11 = .ok (.invokestatic 50, 3) := by decide +kernel
theorem dX8_who_14 : decode cX8_who 14 = .ok (.ifCond .eq 12, 3) := by decide +kernel
theorem dX8_who_17 : decode cX8_who 17 = .ok (.iload_n 3, 1) := by decide +kernel
theorem dX8_who_18 : decode cX8_who 18 = .ok (.iconst 0, 1) := by decide +kernel
theorem dX8_who_19 : decode cX8_who 19 = .ok (.iconst 2, 1) := by decide +kernel
theorem dX8_who_20 : decode cX8_who 20 = .ok (.invokestatic 50, 3) := by decide +kernel
theorem dX8_who_23 : decode cX8_who 23 = .ok (.ifCond .ne 9, 3) := by decide +kernel
theorem dX8_who_26 : decode cX8_who 26 = .ok (.aload_n 0, 1) := by decide +kernel
theorem dX8_who_27 : decode cX8_who 27 = .ok (.iconst 1, 1) := by decide +kernel
theorem dX8_who_28 : decode cX8_who 28 = .ok (.invokevirtual 62, 3) := by decide +kernel
theorem dX8_who_31 : decode cX8_who 31 = .ok (.ireturn, 1) := by decide +kernel
theorem dX8_who_32 : decode cX8_who 32 = .ok (.aload_n 0, 1) := by decide +kernel
theorem dX8_who_33 : decode cX8_who 33 = .ok (.getfield 233, 3) := by decide +kernel
theorem dX8_who_36 : decode cX8_who 36 = .ok (.ifCond .eq 27, 3) := by decide +kernel
theorem dX8_who_39 : decode cX8_who 39 = .ok (.aload_n 0, 1) := by decide +kernel
theorem dX8_who_40 : decode cX8_who 40 = .ok (.getfield 37, 3) := by decide +kernel
theorem dX8_who_43 : decode cX8_who 43 = .ok (.iload_n 1, 1) := by decide +kernel
theorem dX8_who_44 : decode cX8_who 44 = .ok (.iaload, 1) := by decide +kernel
theorem dX8_who_45 : decode cX8_who 45 = .ok (.ifCond .eq 18, 3) := by decide +kernel
theorem dX8_who_48 : decode cX8_who 48 = .ok (.aload_n 0, 1) := by decide +kernel
theorem dX8_who_49 : decode cX8_who 49 = .ok (.getfield 40, 3) := by decide +kernel
theorem dX8_who_52 : decode cX8_who 52 = .ok (.iload_n 1, 1) := by decide +kernel
theorem dX8_who_53 : decode cX8_who 53 = .ok (.iaload, 1) := by decide +kernel
theorem dX8_who_54 : decode cX8_who 54 = .ok (.aload_n 0, 1) := by decide +kernel
theorem dX8_who_55 : decode cX8_who 55 = .ok (.getfield 13, 3) := by decide +kernel
theorem dX8_who_58 : decode cX8_who 58 = .ok (.iconst 0, 1) := by decide +kernel
theorem dX8_who_59 : decode cX8_who 59 = .ok (.iaload, 1) := by decide +kernel
theorem dX8_who_60 : decode cX8_who 60 = .ok (.if_icmp .ge 9, 3) := by decide +kernel
theorem dX8_who_63 : decode cX8_who 63 = .ok (.aload_n 0, 1) := by decide +kernel
theorem dX8_who_64 : decode cX8_who 64 = .ok (.iconst 2, 1) := by decide +kernel
theorem dX8_who_65 : decode cX8_who 65 = .ok (.invokevirtual 62, 3) := by decide +kernel
theorem dX8_who_68 : decode cX8_who 68 = .ok (.ireturn, 1) := by decide +kernel
theorem dX8_who_69 : decode cX8_who 69 = .ok (.aload_n 0, 1) := by decide +kernel
theorem dX8_who_70 : decode cX8_who 70 = .ok (.getfield 7, 3) := by decide +kernel
theorem dX8_who_73 : decode cX8_who 73 = .ok (.aload_n 0, 1) := by decide +kernel
theorem dX8_who_74 : decode cX8_who 74 = .ok (.getfield 16, 3) := by decide +kernel
theorem dX8_who_77 : decode cX8_who 77 = .ok (.invokestatic 236, 3) := by decide +kernel
theorem dX8_who_80 : decode cX8_who 80 = .ok (.aload_n 0, 1) := by decide +kernel
theorem dX8_who_81 : decode cX8_who 81 = .ok (.getfield 13, 3) := by decide +kernel
theorem dX8_who_84 : decode cX8_who 84 = .ok (.aload_n 0, 1) := by decide +kernel
theorem dX8_who_85 : decode cX8_who 85 = .ok (.getfield 7, 3) := by decide +kernel
theorem dX8_who_88 : decode cX8_who 88 = .ok (.invokestatic 236, 3) := by decide +kernel
theorem dX8_who_91 : decode cX8_who 91 = .ok (.aload_n 0, 1) := by decide +kernel
theorem dX8_who_92 : decode cX8_who 92 = .ok (.iconst 0, 1) := by decide +kernel
theorem dX8_who_93 : decode cX8_who 93 = .ok (.invokevirtual 200, 3) := by decide +kernel
theorem dX8_who_96 : decode cX8_who 96 = .ok (.aload_n 0, 1) := by decide +kernel
theorem dX8_who_97 : decode cX8_who 97 = .ok (.iload_n 2, 1) := by decide +kernel
theorem dX8_who_98 : decode cX8_who 98 = .ok (.invokevirtual 190, 3) := by decide +kernel
theorem dX8_who_101 : decode cX8_who 101 = .ok (.aload_n 0, 1) := by decide +kernel
theorem dX8_who_102 : decode cX8_who 102 = .ok (.iload_n 1, 1) := by decide +kernel
theorem dX8_who_103 : decode cX8_who 103 = .ok (.invokevirtual 227, 3) := by decide +kernel
theorem dX8_who_106 : decode cX8_who 106 = .ok (.ifCond .eq 7, 3) := by decide +kernel
theorem dX8_who_109 : decode cX8_who 109 = .ok (.iconst 1, 1) := by decide +kernel
theorem dX8_who_110 : decode cX8_who 110 = .ok (.goto 4, 3) := by decide +kernel
theorem dX8_who_113 : decode cX8_who 113 = .ok (.iconst 0, 1) := by decide +kernel
theorem dX8_who_114 : decode cX8_who 114 = .ok (.istore 4, 2) := by decide +kernel
theorem dX8_who_116 : decode cX8_who 116 = .ok (.aload_n 0, 1) := by decide +kernel
theorem dX8_who_117 : decode cX8_who 117 = .ok (.iconst 0, 1) := by decide +kernel
theorem dX8_who_118 : decode cX8_who 118 = .ok (.invokevirtual 203, 3) := by decide +kernel
theorem dX8_who_121 : decode cX8_who 121 = .ok (.iconst 0, 1) := by decide +kernel
theorem dX8_who_122 : decode cX8_who 122 = .ok (.istore 5, 2) := by decide +kernel
theorem dX8_who_124 : decode cX8_who 124 = .ok (.iconst (-1), 1) := by decide +kernel
theorem dX8_who_125 : decode cX8_who 125 = .ok (.istore 6, 2) := by decide +kernel
theorem dX8_who_127 : decode cX8_who 127 = .ok (.iconst 0, 1) := by decide +kernel
theorem dX8_who_128 : decode cX8_who 128 = .ok (.istore 7, 2) := by decide +kernel
theorem dX8_who_130 : decode cX8_who 130 = .ok (.iload 7, 2) := by decide +kernel
theorem dX8_who_132 : decode cX8_who 132 = .ok (.iconst 3, 1) := by decide +kernel
theorem dX8_who_133 : decode cX8_who 133 = .ok (.aload_n 0, 1) := by decide +kernel
theorem dX8_who_134 : decode cX8_who 134 = .ok (.getfield 7, 3) := by decide +kernel
theorem dX8_who_137 : decode cX8_who 137 = .ok (.iconst 0, 1) := by decide +kernel
theorem dX8_who_138 : decode cX8_who 138 = .ok (.iaload, 1) := by decide +kernel
theorem dX8_who_139 : decode cX8_who 139 = .ok (.imul, 1) := by decide +kernel
theorem dX8_who_140 : decode cX8_who 140 = .ok (.if_icmp .ge 102, 3) := by decide +kernel
theorem dX8_who_143 : decode cX8_who 143 = .ok (.iconst 0, 1) := by decide +kernel
theorem dX8_who_144 : decode cX8_who 144 = .ok (.istore 8, 2) := by decide +kernel
theorem dX8_who_146 : decode cX8_who 146 = .ok (.iconst 0, 1) := by decide +kernel
theorem dX8_who_147 : decode cX8_who 147 = .ok (.istore 9, 2) := by decide +kernel
theorem dX8_who_149 : decode cX8_who 149 = .ok (.iload 9, 2) := by decide +kernel
theorem dX8_who_151 : decode cX8_who 151 = .ok (.iload_n 2, 1) := by decide +kernel
theorem dX8_who_152 : decode cX8_who 152 = .ok (.if_icmp .ge 32, 3) := by decide +kernel
theorem dX8_who_155 : decode cX8_who 155 = .ok (.iload 8, 2) := by decide +kernel
theorem dX8_who_157 : decode cX8_who 157 = .ok (.aload_n 0, 1) := by decide +kernel
theorem dX8_who_158 : decode cX8_who 158 = .ok (.iload_n 1, 1) := by decide +kernel
theorem dX8_who_159 : decode cX8_who 159 = .ok (.iload_n 2, 1) := by decide +kernel
theorem dX8_who_160 : decode cX8_who 160 = .ok (.iload 7, 2) := by decide +kernel
theorem dX8_who_162 : decode cX8_who 162 = .ok (.iload 9, 2) := by decide +kernel
theorem dX8_who_164 : decode cX8_who 164 = .ok (.invokevirtual 240, 3) := by decide +kernel
theorem dX8_who_167 : decode cX8_who 167 = .ok (.ifCond .eq 7, 3) := by decide +kernel
theorem dX8_who_170 : decode cX8_who 170 = .ok (.iconst 1, 1) := by decide +kernel
theorem dX8_who_171 : decode cX8_who 171 = .ok (.goto 4, 3) := by decide +kernel
theorem dX8_who_174 : decode cX8_who 174 = .ok (.iconst 0, 1) := by decide +kernel
theorem dX8_who_175 : decode cX8_who 175 = .ok (.iadd, 1) := by decide +kernel
theorem dX8_who_176 : decode cX8_who 176 = .ok (.istore 8, 2) := by decide +kernel
theorem dX8_who_178 : decode cX8_who 178 = .ok (.iinc 9 1, 3) := by decide +kernel
theorem dX8_who_181 : decode cX8_who 181 = .ok (.goto (-32), 3) := by decide +kernel
theorem dX8_who_184 : decode cX8_who 184 = .ok (.iload 4, 2) := by decide +kernel
theorem dX8_who_186 : decode cX8_who 186 = .ok (.iload 8, 2) := by decide +kernel
theorem dX8_who_188 : decode cX8_who 188 = .ok (.iadd, 1) := by decide +kernel
theorem dX8_who_189 : decode cX8_who 189 = .ok (.istore 4, 2) := by decide +kernel
theorem dX8_who_191 : decode cX8_who 191 = .ok (.iload 5, 2) := by decide +kernel
theorem dX8_who_193 : decode cX8_who 193 = .ok (.iload 8, 2) := by decide +kernel
theorem dX8_who_195 : decode cX8_who 195 = .ok (.ifCond .le 7, 3) := by decide +kernel
theorem dX8_who_198 : decode cX8_who 198 = .ok (.iconst 1, 1) := by decide +kernel
theorem dX8_who_199 : decode cX8_who 199 = .ok (.goto 4, 3) := by decide +kernel
theorem dX8_who_202 : decode cX8_who 202 = .ok (.iconst 0, 1) := by decide +kernel
theorem dX8_who_203 : decode cX8_who 203 = .ok (.iadd, 1) := by decide +kernel
theorem dX8_who_204 : decode cX8_who 204 = .ok (.istore 5, 2) := by decide +kernel
theorem dX8_who_206 : decode cX8_who 206 = .ok (.iload 8, 2) := by decide +kernel
theorem dX8_who_208 : decode cX8_who 208 = .ok (.ifCond .le 24, 3) := by decide +kernel
theorem dX8_who_211 : decode cX8_who 211 = .ok (.iload 6, 2) := by decide +kernel
theorem dX8_who_213 : decode cX8_who 213 = .ok (.iconst (-1), 1) := by decide +kernel
theorem dX8_who_214 : decode cX8_who 214 = .ok (.if_icmp .ne 18, 3) := by decide +kernel
theorem dX8_who_217 : decode cX8_who 217 = .ok (.bipush 10, 2) := by decide +kernel
theorem dX8_who_219 : decode cX8_who 219 = .ok (.iload 7, 2) := by decide +kernel
theorem dX8_who_221 : decode cX8_who 221 = .ok (.iconst 3, 1) := by decide +kernel
theorem dX8_who_222 : decode cX8_who 222 = .ok (.idiv, 1) := by decide +kernel
theorem dX8_who_223 : decode cX8_who 223 = .ok (.imul, 1) := by decide +kernel
theorem dX8_who_224 : decode cX8_who 224 = .ok (.iload 7, 2) := by decide +kernel
theorem dX8_who_226 : decode cX8_who 226 = .ok (.iconst 3, 1) := by decide +kernel
theorem dX8_who_227 : decode cX8_who 227 = .ok (.irem, 1) := by decide +kernel
theorem dX8_who_228 : decode cX8_who 228 = .ok (.iadd, 1) := by decide +kernel
theorem dX8_who_229 : decode cX8_who 229 = .ok (.goto 5, 3) := by decide +kernel
theorem dX8_who_232 : decode cX8_who 232 = .ok (.iload 6, 2) := by decide +kernel
theorem dX8_who_234 : decode cX8_who 234 = .ok (.istore 6, 2) := by decide +kernel
theorem dX8_who_236 : decode cX8_who 236 = .ok (.iinc 7 1, 3) := by decide +kernel
theorem dX8_who_239 : decode cX8_who 239 = .ok (.goto (-109), 3) := by decide +kernel
theorem dX8_who_242 : decode cX8_who 242 = .ok (.aload_n 0, 1) := by decide +kernel
theorem dX8_who_243 : decode cX8_who 243 = .ok (.getfield 16, 3) := by decide +kernel
theorem dX8_who_246 : decode cX8_who 246 = .ok (.aload_n 0, 1) := by decide +kernel
theorem dX8_who_247 : decode cX8_who 247 = .ok (.getfield 7, 3) := by decide +kernel
theorem dX8_who_250 : decode cX8_who 250 = .ok (.invokestatic 236, 3) := by decide +kernel
theorem dX8_who_253 : decode cX8_who 253 = .ok (.iload_n 3, 1) := by decide +kernel
theorem dX8_who_254 : decode cX8_who 254 = .ok (.iconst 1, 1) := by decide +kernel
theorem dX8_who_255 : decode cX8_who 255 = .ok (.if_icmp .ne 15, 3) := by decide +kernel
theorem dX8_who_258 : decode cX8_who 258 = .ok (.iload 6, 2) := by decide +kernel
theorem dX8_who_260 : decode cX8_who 260 = .ok (.iconst (-1), 1) := by decide +kernel
theorem dX8_who_261 : decode cX8_who 261 = .ok (.if_icmp .ne 9, 3) := by decide +kernel
theorem dX8_who_264 : decode cX8_who 264 = .ok (.aload_n 0, 1) := by decide +kernel
theorem dX8_who_265 : decode cX8_who 265 = .ok (.iconst 2, 1) := by decide +kernel
theorem dX8_who_266 : decode cX8_who 266 = .ok (.invokevirtual 62, 3) := by decide +kernel
theorem dX8_who_269 : decode cX8_who 269 = .ok (.ireturn, 1) := by decide +kernel
theorem dX8_who_270 : decode cX8_who 270 = .ok (.iload_n 3, 1) := by decide +kernel
theorem dX8_who_271 : decode cX8_who 271 = .ok (.ifCond .ne 8, 3) := by decide +kernel
theorem dX8_who_274 : decode cX8_who 274 = .ok (.iload 5, 2) := by decide +kernel
theorem dX8_who_276 : decode cX8_who 276 = .ok (.goto 15, 3) := by decide +kernel
theorem dX8_who_279 : decode cX8_who 279 = .ok (.iload_n 3, 1) := by decide +kernel
theorem dX8_who_280 : decode cX8_who 280 = .ok (.iconst 1, 1) := by decide +kernel
theorem dX8_who_281 : decode cX8_who 281 = .ok (.if_icmp .ne 8, 3) := by decide +kernel
theorem dX8_who_284 : decode cX8_who 284 = .ok (.iload 6, 2) := by decide +kernel
theorem dX8_who_286 : decode cX8_who 286 = .ok (.goto 5, 3) := by decide +kernel
theorem dX8_who_289 : decode cX8_who 289 = .ok (.iload 4, 2) := by decide +kernel
theorem dX8_who_291 : decode cX8_who 291 = .ok (.ireturn, 1) := by decide +kernel
theorem dX8_hoursOf_0 : decode cX8_hoursOf 0 = .ok (.aload_n 0, 1) := by decide +kernel
theorem dX8_hoursOf_1 : decode cX8_hoursOf 1 = .ok (.iload_n 1, 1) := by decide +kernel
theorem dX8_hoursOf_2 : decode cX8_hoursOf 2 = .ok (.iload_n 2, 1) := by decide +kernel
theorem dX8_hoursOf_3 : decode cX8_hoursOf 3 = .ok (.invokevirtual 224, 3) := by decide +kernel
theorem dX8_hoursOf_6 : decode cX8_hoursOf 6 = .ok (.aload_n 0, 1) := by decide +kernel
theorem dX8_hoursOf_7 : decode cX8_hoursOf 7 = .ok (.getfield 209, 3) := by decide +kernel
theorem dX8_hoursOf_10 : decode cX8_hoursOf 10 = .ok (.iconst (-1), 1) := by decide +kernel
theorem dX8_hoursOf_11 : decode cX8_hoursOf 11 = .ok (.if_icmp .ne 9, 3) := by decide +kernel
theorem dX8_hoursOf_14 : decode cX8_hoursOf 14 = .ok (.iload_n 2, 1) := by decide +kernel
theorem dX8_hoursOf_15 : decode cX8_hoursOf 15 = .ok (.iconst 1, 1) := by decide +kernel
theorem dX8_hoursOf_16 : decode cX8_hoursOf 16 = .ok (.iadd, 1) := by decide +kernel
