theorem dX5_partedBy_0 : decode cX5_partedBy 0 = .ok (.iload_n 2, 1) := by decide +kernel
theorem dX5_partedBy_1 : decode cX5_partedBy 1 = .ok (.ifCond .ne 10, 3) := by decide +kernel
theorem dX5_partedBy_4 : decode cX5_partedBy 4 = .ok (.aload_n 0, 1) := by decide +kernel
theorem dX5_partedBy_5 : decode cX5_partedBy 5 = .ok (.iconst 1, 1) := by decide +kernel
theorem dX5_partedBy_6 : decode cX5_partedBy 6 = .ok (.putfield 25, 3) := by decide +kernel
theorem dX5_partedBy_9 : decode cX5_partedBy 9 = .ok (.iconst 0, 1) := by decide +kernel
theorem dX5_partedBy_10 : decode cX5_partedBy 10 = .ok (.ireturn, 1) := by decide +kernel
theorem dX5_partedBy_11 : decode cX5_partedBy 11 = .ok (.iload_n 1, 1) := by decide +kernel
theorem dX5_partedBy_12 : decode cX5_partedBy 12 = .ok (.iload_n 2, 1) := by decide +kernel
theorem dX5_partedBy_13 : decode cX5_partedBy 13 = .ok (.idiv, 1) := by decide +kernel
theorem dX5_partedBy_14 : decode cX5_partedBy 14 = .ok (.ireturn, 1) := by decide +kernel
theorem dX6_init_0 : decode cX6_init 0 = .ok (.aload_n 0, 1) := by decide +kernel
theorem dX6_init_1 : decode cX6_init 1 = .ok (.invokespecial 3, 3) := by decide +kernel
theorem dX6_init_4 : decode cX6_init 4 = .ok (.aload_n 0, 1) := by decide +kernel
theorem dX6_init_5 : decode cX6_init 5 = .ok (.bipush 60, 2) := by decide +kernel
theorem dX6_init_7 : decode cX6_init 7 = .ok (.newarray .int, 2) := by decide +kernel
theorem dX6_init_9 : decode cX6_init 9 = .ok (.putfield 9, 3) := by decide +kernel
theorem dX6_init_12 : decode cX6_init 12 = .ok (.aload_n 0, 1) := by decide +kernel
theorem dX6_init_13 : decode cX6_init 13 = .ok (.bipush 60, 2) := by decide +kernel
theorem dX6_init_15 : decode cX6_init 15 = .ok (.newarray .int, 2) := by decide +kernel
theorem dX6_init_17 : decode cX6_init 17 = .ok (.putfield 15, 3) := by decide +kernel
theorem dX6_init_20 : decode cX6_init 20 = .ok (.return_, 1) := by decide +kernel
theorem dX6_isThere_0 : decode cX6_isThere 0 = .ok (.aload_n 0, 1) := by decide +kernel
theorem dX6_isThere_1 : decode cX6_isThere 1 = .ok (.getfield 18, 3) := by decide +kernel
theorem dX6_isThere_4 : decode cX6_isThere 4 = .ok (.ifCond .le 7, 3) := by decide +kernel
theorem dX6_isThere_7 : decode cX6_isThere 7 = .ok (.iconst 1, 1) := by decide +kernel
theorem dX6_isThere_8 : decode cX6_isThere 8 = .ok (.goto 4, 3) := by decide +kernel
theorem dX6_isThere_11 : decode cX6_isThere 11 = .ok (.iconst 0, 1) := by decide +kernel
theorem dX6_isThere_12 : decode cX6_isThere 12 = .ok (.ireturn, 1) := by decide +kernel
theorem dX6_clear_0 : decode cX6_clear 0 = .ok (.aload_n 0, 1) := by decide +kernel
theorem dX6_clear_1 : decode cX6_clear 1 = .ok (.iconst 0, 1) := by decide +kernel
theorem dX6_clear_2 : decode cX6_clear 2 = .ok (.putfield 18, 3) := by decide +kernel
theorem dX6_clear_5 : decode cX6_clear 5 = .ok (.return_, 1) := by decide +kernel
theorem dX6_become_0 : decode cX6_become 0 = .ok (.aload_n 1, 1) := by decide +kernel
theorem dX6_become_1 : decode cX6_become 1 = .ok (.getfield 9, 3) := by decide +kernel
theorem dX6_become_4 : decode cX6_become 4 = .ok (.iconst 0, 1) := by decide +kernel
theorem dX6_become_5 : decode cX6_become 5 = .ok (.aload_n 0, 1) := by decide +kernel
theorem dX6_become_6 : decode cX6_become 6 = .ok (.getfield 9, 3) := by decide +kernel
theorem dX6_become_9 : decode cX6_become 9 = .ok (.iconst 0, 1) := by decide +kernel
theorem dX6_become_10 : decode cX6_become 10 = .ok (.bipush 60, 2) := by decide +kernel
theorem dX6_become_12 : decode cX6_become 12 = .ok (.invokestatic 22, 3) := by decide +kernel
theorem dX6_become_15 : decode cX6_become 15 = .ok (.aload_n 0, 1) := by decide +kernel
theorem dX6_become_16 : decode cX6_become 16 = .ok (.aload_n 1, 1) := by decide +kernel
theorem dX6_become_17 : decode cX6_become 17 = .ok (.getfield 18, 3) := by decide +kernel
theorem dX6_become_20 : decode cX6_become 20 = .ok (.putfield 18, 3) := by decide +kernel
theorem dX6_become_23 : decode cX6_become 23 = .ok (.return_, 1) := by decide +kernel
theorem dX6_add_0 : decode cX6_add 0 = .ok (.aload_n 0, 1) := by decide +kernel
theorem dX6_add_1 : decode cX6_add 1 = .ok (.getfield 18, 3) := by decide +kernel
theorem dX6_add_4 : decode cX6_add 4 = .ok (.bipush 60, 2) := by decide +kernel
theorem dX6_add_6 : decode cX6_add 6 = .ok (.if_icmp .ge 23, 3) := by decide +kernel
theorem dX6_add_9 : decode cX6_add 9 = .ok (.aload_n 0, 1) := by decide +kernel
theorem dX6_add_10 : decode cX6_add 10 = .ok (.getfield 9, 3) := by decide +kernel
theorem dX6_add_13 : decode cX6_add 13 = .ok (.aload_n 0, 1) := by decide +kernel
theorem dX6_add_14 : decode cX6_add 14 = .ok (.getfield 18, 3) := by decide +kernel
theorem dX6_add_17 : decode cX6_add 17 = .ok (.iload_n 1, 1) := by decide +kernel
theorem dX6_add_18 : decode cX6_add 18 = .ok (.iastore, 1) := by decide +kernel
theorem dX6_add_19 : decode cX6_add 19 = .ok (.aload_n 0, 1) := by decide +kernel
theorem dX6_add_20 : decode cX6_add 20 = .ok (.dup, 1) := by decide +kernel
theorem dX6_add_21 : decode cX6_add 21 = .ok (.getfield 18, 3) := by decide +kernel
theorem dX6_add_24 : decode cX6_add 24 = .ok (.iconst 1, 1) := by decide +kernel
theorem dX6_add_25 : decode cX6_add 25 = .ok (.iadd, 1) := by decide +kernel
theorem dX6_add_26 : decode cX6_add 26 = .ok (.putfield 18, 3) := by decide +kernel
theorem dX6_add_29 : decode cX6_add 29 = .ok (.return_, 1) := by decide +kernel
theorem dX6_value_0 : decode cX6_value 0 = .ok (.iconst 0, 1) := by decide +kernel
theorem dX6_value_1 : decode cX6_value 1 = .ok (.istore 4, 2) := by decide +kernel
theorem dX6_value_3 : decode cX6_value 3 = .ok (.iconst 0, 1) := by decide +kernel
theorem dX6_value_4 : decode cX6_value 4 = .ok (.istore 5, 2) := by decide +kernel
theorem dX6_value_6 : decode cX6_value 6 = .ok (.iload 5, 2) := by decide +kernel
theorem dX6_value_8 : decode cX6_value 8 = .ok (.aload_n 0, 1) := by decide +kernel
theorem dX6_value_9 : decode cX6_value 9 = .ok (.getfield 18, 3) := by decide +kernel
theorem dX6_value_12 : decode cX6_value 12 = .ok (.if_icmp .ge 132, 3) := by decide +kernel
theorem dX6_value_15 : decode cX6_value 15 = .ok (.aload_n 0, 1) := by decide +kernel
theorem dX6_value_16 : decode cX6_value 16 = .ok (.getfield 9, 3) := by decide +kernel
theorem dX6_value_19 : decode cX6_value 19 = .ok (.iload 5, 2) := by decide +kernel
theorem dX6_value_21 : decode cX6_value 21 = .ok (.iaload, 1) := by decide +kernel
theorem dX6_value_22 : decode cX6_value 22 = .ok (.istore 6, 2) := by decide +kernel
theorem dX6_value_24 : decode cX6_value 24 = .ok (.iload 6, 2) := by decide +kernel
theorem dX6_value_26 : decode cX6_value 26 = .ok (.bipush (-33), 2) := by decide +kernel
theorem dX6_value_28 : decode cX6_value 28 = .ok (.if_icmp .ne 37, 3) := by decide +kernel
theorem dX6_value_31 : decode cX6_value 31 = .ok (.iload 4, 2) := by decide +kernel
theorem dX6_value_33 : decode cX6_value 33 = .ok (.ifCond .le 32, 3) := by decide +kernel
theorem dX6_value_36 : decode cX6_value 36 = .ok (.aload_n 0, 1) := by decide +kernel
theorem dX6_value_37 : decode cX6_value 37 = .ok (.getfield 15, 3) := by decide +kernel
theorem dX6_value_40 : decode cX6_value 40 = .ok (.iload 4, 2) := by decide +kernel
theorem dX6_value_42 : decode cX6_value 42 = .ok (.iconst 1, 1) := by decide +kernel
theorem dX6_value_43 : decode cX6_value 43 = .ok (.isub, 1) := by decide +kernel
theorem dX6_value_44 : decode cX6_value 44 = .ok (.aload_n 0, 1) := by decide +kernel
theorem dX6_value_45 : decode cX6_value 45 = .ok (.getfield 15, 3) := by decide +kernel
theorem dX6_value_48 : decode cX6_value 48 = .ok (.iload 4, 2) := by decide +kernel
theorem dX6_value_50 : decode cX6_value 50 = .ok (.iconst 1, 1) := by decide +kernel
theorem dX6_value_51 : decode cX6_value 51 = .ok (.isub, 1) := by decide +kernel
theorem dX6_value_52 : decode cX6_value 52 = .ok (.iaload, 1) := by decide +kernel
theorem dX6_value_53 : decode cX6_value 53 = .ok (.ifCond .ne 7, 3) := by decide +kernel
theorem dX6_value_56 : decode cX6_value 56 = .ok (.iconst 1, 1) := by decide +kernel
theorem dX6_value_57 : decode cX6_value 57 = .ok (.goto 4, 3) := by decide +kernel
theorem dX6_value_60 : decode cX6_value 60 = .ok (.iconst 0, 1) := by decide +kernel
theorem dX6_value_61 : decode cX6_value 61 = .ok (.iastore, 1) := by decide +kernel
theorem dX6_value_62 : decode cX6_value 62 = .ok (.goto 76, 3) := by decide +kernel
theorem dX6_value_65 : decode cX6_value 65 = .ok (.iload 6, 2) := by decide +kernel
theorem dX6_value_67 : decode cX6_value 67 = .ok (.ifCond .lt 31, 3) := by decide +kernel
theorem dX6_value_70 : decode cX6_value 70 = .ok (.iload 4, 2) := by decide +kernel
theorem dX6_value_72 : decode cX6_value 72 = .ok (.bipush 60, 2) := by decide +kernel
theorem dX6_value_74 : decode cX6_value 74 = .ok (.if_icmp .ge 24, 3) := by decide +kernel
theorem dX6_value_77 : decode cX6_value 77 = .ok (.aload_n 0, 1) := by decide +kernel
theorem dX6_value_78 : decode cX6_value 78 = .ok (.getfield 15, 3) := by decide +kernel
theorem dX6_value_81 : decode cX6_value 81 = .ok (.iload 4, 2) := by decide +kernel
theorem dX6_value_83 : decode cX6_value 83 = .ok (.iload 6, 2) := by decide +kernel
theorem dX6_value_85 : decode cX6_value 85 = .ok (.iload_n 1, 1) := by decide +kernel
theorem dX6_value_86 : decode cX6_value 86 = .ok (.iload_n 2, 1) := by decide +kernel
theorem dX6_value_87 : decode cX6_value 87 = .ok (.iload_n 3, 1) := by decide +kernel
theorem dX6_value_88 : decode cX6_value 88 = .ok (.invokestatic 28, 3) := by decide +kernel
theorem dX6_value_91 : decode cX6_value 91 = .ok (.iastore, 1) := by decide +kernel
theorem dX6_value_92 : decode cX6_value 92 = .ok (.iinc 4 1, 3) := by decide +kernel
theorem dX6_value_95 : decode cX6_value 95 = .ok (.goto 43, 3) := by decide +kernel
theorem dX6_value_98 : decode cX6_value 98 = .ok (.iload 4, 2) := by decide +kernel
theorem dX6_value_100 : decode cX6_value 100 = .ok (.iconst 1, 1) := by decide +kernel
theorem dX6_value_101 : decode cX6_value 101 = .ok (.if_icmp .le 37, 3) := by decide +kernel
theorem dX6_value_104 : decode cX6_value 104 = .ok (.iinc 4 (-1), 3) := by decide +kernel
theorem dX6_value_107 : decode cX6_value 107 = .ok (.aload_n 0, 1) := by decide +kernel
theorem dX6_value_108 : decode cX6_value 108 = .ok (.getfield 15, 3) := by decide +kernel
theorem dX6_value_111 : decode cX6_value 111 = .ok (.iload 4, 2) := by decide +kernel
theorem dX6_value_113 : decode cX6_value 113 = .ok (.iconst 1, 1) := by decide +kernel
theorem dX6_value_114 : decode cX6_value 114 = .ok (.isub, 1) := by decide +kernel
theorem dX6_value_115 : decode cX6_value 115 = .ok (.iload 6, 2) := by decide +kernel
theorem dX6_value_117 : decode cX6_value 117 = .ok (.ineg, 1) := by decide +kernel
theorem dX6_value_118 : decode cX6_value 118 = .ok (.aload_n 0, 1) := by decide +kernel
theorem dX6_value_119 : decode cX6_value 119 = .ok (.getfield 15, 3) := by decide +kernel
theorem dX6_value_122 : decode cX6_value 122 = .ok (.iload 4, 2) := by decide +kernel
theorem dX6_value_124 : decode cX6_value 124 = .ok (.iconst 1, 1) := by decide +kernel
theorem dX6_value_125 : decode cX6_value 125 = .ok (.isub, 1) := by decide +kernel
theorem dX6_value_126 : decode cX6_value 126 = .ok (.iaload, 1) := by decide +kernel
theorem dX6_value_127 : decode cX6_value 127 = .ok (.aload_n 0, 1) := by decide +kernel
theorem dX6_value_128 : decode cX6_value 128 = .ok (.getfield 15, 3) := by decide +kernel
theorem dX6_value_131 : decode cX6_value 131 = .ok (.iload 4, 2) := by decide +kernel
theorem dX6_value_133 : decode cX6_value 133 = .ok (.iaload, 1) := by decide +kernel
theorem dX6_value_134 : decode cX6_value 134 = .ok (.invokestatic 32, 3) := by decide +kernel
theorem dX6_value_137 : decode cX6_value 137 = .ok (.iastore, 1) := by decide +kernel
theorem dX6_value_138 : decode cX6_value 138 = .ok (.iinc 5 1, 3) := by decide +kernel
theorem dX6_value_141 : decode cX6_value 141 = .ok (.goto (-135), 3) := by decide +kernel
theorem dX6_value_144 : decode cX6_value 144 = .ok (.iload 4, 2) := by decide +kernel
theorem dX6_value_146 : decode cX6_value 146 = .ok (.ifCond .le 12, 3) := by decide +kernel
theorem dX6_value_149 : decode cX6_value 149 = .ok (.aload_n 0, 1) := by decide +kernel
theorem dX6_value_150 : decode cX6_value 150 = .ok (.getfield 15, 3) := by decide +kernel
theorem dX6_value_153 : decode cX6_value 153 = .ok (.iconst 0, 1) := by decide +kernel
theorem dX6_value_154 : decode cX6_value 154 = .ok (.iaload, 1) := by decide +kernel
theorem dX6_value_155 : decode cX6_value 155 = .ok (.goto 4, 3) := by decide +kernel
theorem dX6_value_158 : decode cX6_value 158 = .ok (.iconst 0, 1) := by decide +kernel
theorem dX6_value_159 : decode cX6_value 159 = .ok (.ireturn, 1) := by decide +kernel
theorem dX6_operand_0 : decode cX6_operand 0 = .ok (.iload_n 0, 1) := by decide +kernel
theorem dX6_operand_1 : decode cX6_operand 1 = .ok (.sipush 10000, 3) := by decide +kernel
theorem dX6_operand_4 : decode cX6_operand 4 = .ok (.isub, 1) := by decide +kernel
theorem dX6_operand_5 : decode cX6_operand 5 = .ok (.tableswitch 33 0 2 #[27, 29, 31], 27) := by decide +kernel
theorem dX6_operand_32 : decode cX6_operand 32 = .ok (.iload_n 1, 1) := by decide +kernel
theorem dX6_operand_33 : decode cX6_operand 33 = .ok (.ireturn, 1) := by decide +kernel
theorem dX6_operand_34 : decode cX6_operand 34 = .ok (.iload_n 2, 1) := by decide +kernel
theorem dX6_operand_35 : decode cX6_operand 35 = .ok (.ireturn, 1) := by decide +kernel
theorem dX6_operand_36 : decode cX6_operand 36 = .ok (.iload_n 3, 1) := by decide +kernel
theorem dX6_operand_37 : decode cX6_operand 37 = .ok (.ireturn, 1) := by decide +kernel
theorem dX6_operand_38 : decode cX6_operand 38 = .ok (.iload_n 0, 1) := by decide +kernel
theorem dX6_operand_39 : decode cX6_operand 39 = .ok (.ireturn, 1) := by decide +kernel
theorem dX6_joined_0 : decode cX6_joined 0 = .ok (.iload_n 0, 1) := by decide +kernel
theorem dX6_joined_1 : decode cX6_joined 1 = .ok (.lookupswitch 168 #[(38, 97), (42, 152), (43, 144), (45, 148), (47, 156), (60, 111), (61, 122), (62, 133), (124, 83)], 83) := by decide +kernel
theorem dX6_joined_84 : decode cX6_joined 84 = .ok (.iload_n 1, 1) := by decide +kernel
theorem dX6_joined_85 : decode cX6_joined 85 = .ok (.ifCond .ne 7, 3) := by decide +kernel
theorem dX6_joined_88 : decode cX6_joined 88 = .ok (.iload_n 2, 1) := by decide +kernel
theorem dX6_joined_89 : decode cX6_joined 89 = .ok (.ifCond .eq 7, 3) := by decide +kernel
theorem dX6_joined_92 : decode cX6_joined 92 = .ok (.iconst 1, 1) := by decide +kernel
theorem dX6_joined_93 : decode cX6_joined 93 = .ok (.goto 4, 3) := by decide +kernel
theorem dX6_joined_96 : decode cX6_joined 96 = .ok (.iconst 0, 1) := by decide +kernel
theorem dX6_joined_97 : decode cX6_joined 97 = .ok (.ireturn, 1) := by decide +kernel
theorem dX6_joined_98 : decode cX6_joined 98 = .ok (.iload_n 1, 1) := by decide +kernel
theorem dX6_joined_99 : decode cX6_joined 99 = .ok (.ifCond .eq 11, 3) := by decide +kernel
theorem dX6_joined_102 : decode cX6_joined 102 = .ok (.iload_n 2, 1) := by decide +kernel
theorem dX6_joined_103 : decode cX6_joined 103 = .ok (.ifCond .eq 7, 3) := by decide +kernel
theorem dX6_joined_106 : decode cX6_joined 106 = .ok (.iconst 1, 1) := by decide +kernel
theorem dX6_joined_107 : decode cX6_joined 107 = .ok (.goto 4, 3) := by decide +kernel
theorem dX6_joined_110 : decode cX6_joined 110 = .ok (.iconst 0, 1) := by decide +kernel
theorem dX6_joined_111 : decode cX6_joined 111 = .ok (.ireturn, 1) := by decide +kernel
theorem dX6_joined_112 : decode cX6_joined 112 = .ok (.iload_n 1, 1) := by decide +kernel
theorem dX6_joined_113 : decode cX6_joined 113 = .ok (.iload_n 2, 1) := by decide +kernel
theorem dX6_joined_114 : decode cX6_joined 114 = .ok (.if_icmp .ge 7, 3) := by decide +kernel
theorem dX6_joined_117 : decode cX6_joined 117 = .ok (.iconst 1, 1) := by decide +kernel
theorem dX6_joined_118 : decode cX6_joined 118 = .ok (.goto 4, 3) := by decide +kernel
theorem dX6_joined_121 : decode cX6_joined 121 = .ok (.iconst 0, 1) := by decide +kernel
theorem dX6_joined_122 : decode cX6_joined 122 = .ok (.ireturn, 1) := by decide +kernel
theorem dX6_joined_123 : decode cX6_joined 123 = .ok (.iload_n 1, 1) := by decide +kernel
theorem dX6_joined_124 : decode cX6_joined 124 = .ok (.iload_n 2, 1) := by decide +kernel
theorem dX6_joined_125 : decode cX6_joined 125 = .ok (.if_icmp .ne 7, 3) := by decide +kernel
theorem dX6_joined_128 : decode cX6_joined 128 = .ok (.iconst 1, 1) := by decide +kernel
theorem dX6_joined_129 : decode cX6_joined 129 = .ok (.goto 4, 3) := by decide +kernel
theorem dX6_joined_132 : decode cX6_joined 132 = .ok (.iconst 0, 1) := by decide +kernel
theorem dX6_joined_133 : decode cX6_joined 133 = .ok (.ireturn, 1) := by decide +kernel
theorem dX6_joined_134 : decode cX6_joined 134 = .ok (.iload_n 1, 1) := by decide +kernel
theorem dX6_joined_135 : decode cX6_joined 135 = .ok (.iload_n 2, 1) := by decide +kernel
theorem dX6_joined_136 : decode cX6_joined 136 = .ok (.if_icmp .le 7, 3) := by decide +kernel
theorem dX6_joined_139 : decode cX6_joined 139 = .ok (.iconst 1, 1) := by decide +kernel
theorem dX6_joined_140 : decode cX6_joined 140 = .ok (.goto 4, 3) := by decide +kernel
theorem dX6_joined_143 : decode cX6_joined 143 = .ok (.iconst 0, 1) := by decide +kernel
theorem dX6_joined_144 : decode cX6_joined 144 = .ok (.ireturn, 1) := by decide +kernel
theorem dX6_joined_145 : decode cX6_joined 145 = .ok (.iload_n 1, 1) := by decide +kernel
theorem dX6_joined_146 : decode cX6_joined 146 = .ok (.iload_n 2, 1) := by decide +kernel
theorem dX6_joined_147 : decode cX6_joined 147 = .ok (.iadd, 1) := by decide +kernel
theorem dX6_joined_148 : decode cX6_joined 148 = .ok (.ireturn, 1) := by decide +kernel
theorem dX6_joined_149 : decode cX6_joined 149 = .ok (.iload_n 1, 1) := by decide +kernel
theorem dX6_joined_150 : decode cX6_joined 150 = .ok (.iload_n 2, 1) := by decide +kernel
theorem dX6_joined_151 : decode cX6_joined 151 = .ok (.isub, 1) := by decide +kernel
theorem dX6_joined_152 : decode cX6_joined 152 = .ok (.ireturn, 1) := by decide +kernel
theorem dX6_joined_153 : decode cX6_joined 153 = .ok (.iload_n 1, 1) := by decide +kernel
theorem dX6_joined_154 : decode cX6_joined 154 = .ok (.iload_n 2, 1) := by decide +kernel
theorem dX6_joined_155 : decode cX6_joined 155 = .ok (.imul, 1) := by decide +kernel
theorem dX6_joined_156 : decode cX6_joined 156 = .ok (.ireturn, 1) := by decide +kernel
theorem dX6_joined_157 : decode cX6_joined 157 = .ok (.iload_n 2, 1) := by decide +kernel
theorem dX6_joined_158 : decode cX6_joined 158 = .ok (.ifCond .ne 7, 3) := by decide +kernel
theorem dX6_joined_161 : decode cX6_joined 161 = .ok (.iconst 0, 1) := by decide +kernel
theorem dX6_joined_162 : decode cX6_joined 162 = .ok (.goto 6, 3) := by decide +kernel
theorem dX6_joined_165 : decode cX6_joined 165 = .ok (.iload_n 1, 1) := by decide +kernel
theorem dX6_joined_166 : decode cX6_joined 166 = .ok (.iload_n 2, 1) := by decide +kernel
theorem dX6_joined_167 : decode cX6_joined 167 = .ok (.idiv, 1) := by decide +kernel
theorem dX6_joined_168 : decode cX6_joined 168 = .ok (.ireturn, 1) := by decide +kernel
theorem dX6_joined_169 : decode cX6_joined 169 = .ok (.iload_n 2, 1) := by decide +kernel
theorem dX6_joined_170 : decode cX6_joined 170 = .ok (.ifCond .ne 7, 3) := by decide +kernel
theorem dX6_joined_173 : decode cX6_joined 173 = .ok (.iconst 0, 1) := by decide +kernel
theorem dX6_joined_174 : decode cX6_joined 174 = .ok (.goto 6, 3) := by decide +kernel
theorem dX6_joined_177 : decode cX6_joined 177 = .ok (.iload_n 1, 1) := by decide +kernel
theorem dX6_joined_178 : decode cX6_joined 178 = .ok (.iload_n 2, 1) := by decide +kernel
theorem dX6_joined_179 : decode cX6_joined 179 = .ok (.irem, 1) := by decide +kernel
theorem dX6_joined_180 : decode cX6_joined 180 = .ok (.ireturn, 1) := by decide +kernel
theorem dX7_init_0 : decode cX7_init 0 = .ok (.aload_n 0, 1) := by decide +kernel
theorem dX7_init_1 : decode cX7_init 1 = .ok (.invokespecial 3, 3) := by decide +kernel
theorem dX7_init_4 : decode cX7_init 4 = .ok (.aload_n 0, 1) := by decide +kernel
theorem dX7_init_5 : decode cX7_init 5 = .ok (.new 9, 3) := by decide +kernel
theorem dX7_init_8 : decode cX7_init 8 = .ok (.dup, 1) := by decide +kernel
theorem dX7_init_9 : decode cX7_init 9 = .ok (.invokespecial 11, 3) := by decide +kernel
theorem dX7_init_12 : decode cX7_init 12 = .ok (.putfield 12, 3) := by decide +kernel
theorem dX7_init_15 : decode cX7_init 15 = .ok (.aload_n 0, 1) := by decide +kernel
theorem dX7_init_16 : decode cX7_init 16 = .ok (.new 9, 3) := by decide +kernel
theorem dX7_init_19 : decode cX7_init 19 = .ok (.dup, 1) := by decide +kernel
theorem dX7_init_20 : decode cX7_init 20 = .ok (.invokespecial 11, 3) := by decide +kernel
theorem dX7_init_23 : decode cX7_init 23 = .ok (.putfield 16, 3) := by decide +kernel
theorem dX7_init_26 : decode cX7_init 26 = .ok (.aload_n 0, 1) := by decide +kernel
theorem dX7_init_27 : decode cX7_init 27 = .ok (.new 19, 3) := by decide +kernel
theorem dX7_init_30 : decode cX7_init 30 = .ok (.dup, 1) := by decide +kernel
theorem dX7_init_31 : decode cX7_init 31 = .ok (.invokespecial 21, 3) := by decide +kernel
theorem dX7_init_34 : decode cX7_init 34 = .ok (.putfield 22, 3) := by decide +kernel
theorem dX7_init_37 : decode cX7_init 37 = .ok (.aload_n 0, 1) := by decide +kernel
theorem dX7_init_38 : decode cX7_init 38 = .ok (.new 26, 3) := by decide +kernel
theorem dX7_init_41 : decode cX7_init 41 = .ok (.dup, 1) := by decide +kernel
theorem dX7_init_42 : decode cX7_init 42 = .ok (.invokespecial 28, 3) := by decide +kernel
theorem dX7_init_45 : decode cX7_init 45 = .ok (.putfield 29, 3) := by decide +kernel
theorem dX7_init_48 : decode cX7_init 48 = .ok (.aload_n 0, 1) := by decide +kernel
theorem dX7_init_49 : decode cX7_init 49 = .ok (.new 33, 3) := by decide +kernel
theorem dX7_init_52 : decode cX7_init 52 = .ok (.dup, 1) := by decide +kernel
theorem dX7_init_53 : decode cX7_init 53 = .ok (.invokespecial 35, 3) := by decide +kernel
theorem dX7_init_56 : decode cX7_init 56 = .ok (.putfield 36, 3) := by decide +kernel
theorem dX7_init_59 : decode cX7_init 59 = .ok (.aload_n 0, 1) := by decide +kernel
theorem dX7_init_60 : decode cX7_init 60 = .ok (.new 40, 3) := by decide +kernel
theorem dX7_init_63 : decode cX7_init 63 = .ok (.dup, 1) := by decide +kernel
theorem dX7_init_64 : decode cX7_init 64 = .ok (.invokespecial 42, 3) := by decide +kernel
theorem dX7_init_67 : decode cX7_init 67 = .ok (.putfield 43, 3) := by decide +kernel
theorem dX7_init_70 : decode cX7_init 70 = .ok (.aload_n 0, 1) := by decide +kernel
theorem dX7_init_71 : decode cX7_init 71 = .ok (.iconst 4, 1) := by decide +kernel
theorem dX7_init_72 : decode cX7_init 72 = .ok (.anewarray 47, 3) := by decide +kernel
theorem dX7_init_75 : decode cX7_init 75 = .ok (.putfield 49, 3) := by decide +kernel
theorem dX7_init_78 : decode cX7_init 78 = .ok (.aload_n 0, 1) := by decide +kernel
theorem dX7_init_79 : decode cX7_init 79 = .ok (.bipush 7, 2) := by decide +kernel
theorem dX7_init_81 : decode cX7_init 81 = .ok (.newarray .int, 2) := by decide +kernel
theorem dX7_init_83 : decode cX7_init 83 = .ok (.putfield 53, 3) := by decide +kernel
theorem dX7_init_86 : decode cX7_init 86 = .ok (.iconst 0, 1) := by decide +kernel
theorem dX7_init_87 : decode cX7_init 87 = .ok (.istore_n 1, 1) := by decide +kernel
theorem dX7_init_88 : decode cX7_init 88 = .ok (.iload_n 1, 1) := by decide +kernel
theorem dX7_init_89 : decode cX7_init 89 = .ok (.iconst 4, 1) := by decide +kernel
theorem dX7_init_90 : decode cX7_init 90 = .ok (.if_icmp .ge 22, 3) := by decide +kernel
theorem dX7_init_93 : decode cX7_init 93 = .ok (.aload_n 0, 1) := by decide +kernel
theorem dX7_init_94 : decode cX7_init 94 = .ok (.getfield 49, 3) := by decide +kernel
theorem dX7_init_97 : decode cX7_init 97 = .ok (.iload_n 1, 1) := by decide +kernel
theorem dX7_init_98 : decode cX7_init 98 = .ok (.new 47, 3) := by decide +kernel
theorem dX7_init_101 : decode cX7_init 101 = .ok (.dup, 1) := by decide +kernel
theorem dX7_init_102 : decode cX7_init 102 = .ok (.invokespecial 57, 3) := by decide +kernel
theorem dX7_init_105 : decode cX7_init 105 = .ok (.aastore, 1) := by decide +kernel
theorem dX7_init_106 : decode cX7_init 106 = .ok (.iinc 1 1, 3) := by decide +kernel
theorem dX7_init_109 : decode cX7_init 109 = .ok (.goto (-21), 3) := by decide +kernel
theorem dX7_init_112 : decode cX7_init 112 = .ok (.return_, 1) := by decide +kernel
theorem dX7_land_0 : decode cX7_land 0 = .ok (.iload_n 1, 1) := by decide +kernel
theorem dX7_land_1 : decode cX7_land 1 = .ok (.bipush 64, 2) := by decide +kernel
theorem dX7_land_3 : decode cX7_land 3 = .ok (.invokestatic 58, 3) := by decide +kernel
theorem dX7_land_6 : decode cX7_land 6 = .ok (.ifCond .eq 11, 3) := by decide +kernel
theorem dX7_land_9 : decode cX7_land 9 = .ok (.iload_n 2, 1) := by decide +kernel
theorem dX7_land_10 : decode cX7_land 10 = .ok (.iconst 2, 1) := by decide +kernel
theorem dX7_land_11 : decode cX7_land 11 = .ok (.invokestatic 58, 3) := by decide +kernel
theorem dX7_land_14 : decode cX7_land 14 = .ok (.ifCond .ne 9, 3) := by decide +kernel
theorem dX7_land_17 : decode cX7_land 17 = .ok (.aload_n 0, 1) := by decide +kernel
theorem dX7_land_18 : decode cX7_land 18 = .ok (.iconst 1, 1) := by decide +kernel
theorem dX7_land_19 : decode cX7_land 19 = .ok (.invokevirtual 62, 3) := by decide +kernel
theorem dX7_land_22 : decode cX7_land 22 = .ok (.ireturn, 1) := by decide +kernel
theorem dX7_land_23 : decode cX7_land 23 = .ok (.aload_n 0, 1) := by decide +kernel
theorem dX7_land_24 : decode cX7_land 24 = .ok (.getfield 12, 3) := by decide +kernel
theorem dX7_land_27 : decode cX7_land 27 = .ok (.getfield 66, 3) := by decide +kernel
theorem dX7_land_30 : decode cX7_land 30 = .ok (.iload_n 1, 1) := by decide +kernel
theorem dX7_land_31 : decode cX7_land 31 = .ok (.iaload, 1) := by decide +kernel
theorem dX7_land_32 : decode cX7_land 32 = .ok (.istore_n 3, 1) := by decide +kernel
theorem dX7_land_33 : decode cX7_land 33 = .ok (.aload_n 0, 1) := by decide +kernel
theorem dX7_land_34 : decode cX7_land 34 = .ok (.getfield 12, 3) := by decide +kernel
theorem dX7_land_37 : decode cX7_land 37 = .ok (.getfield 66, 3) := by decide +kernel
theorem dX7_land_40 : decode cX7_land 40 = .ok (.iload_n 1, 1) := by decide +kernel
theorem dX7_land_41 : decode cX7_land 41 = .ok (.iload_n 2, 1) := by decide +kernel
theorem dX7_land_42 : decode cX7_land 42 = .ok (.iastore, 1) := by decide +kernel
theorem dX7_land_43 : decode cX7_land 43 = .ok (.iload_n 3, 1) := by decide +kernel
theorem dX7_land_44 : decode cX7_land 44 = .ok (.ireturn, 1) := by decide +kernel
theorem dX7_drift_0 : decode cX7_drift 0 = .ok (.iload_n 1, 1) := by decide +kernel
theorem dX7_drift_1 : decode cX7_drift 1 = .ok (.iconst 2, 1) := by decide +kernel
theorem dX7_drift_2 : decode cX7_drift 2 = .ok (.invokestatic 58, 3) := by decide +kernel
theorem dX7_drift_5 : decode cX7_drift 5 = .ok (.ifCond .eq 14, 3) := by decide +kernel
theorem dX7_drift_8 : decode cX7_drift 8 = .ok (.iload_n 2, 1) := by decide +kernel
theorem dX7_drift_9 : decode cX7_drift 9 = .ok (.bipush (-9), 2) := by decide +kernel
theorem dX7_drift_11 : decode cX7_drift 11 = .ok (.bipush 9, 2) := by decide +kernel
theorem dX7_drift_13 : decode cX7_drift 13 = .ok (.invokestatic 69, 3) := by decide +kernel
theorem dX7_drift_16 : decode cX7_drift 16 = .ok (.ifCond .ne 9, 3) := by decide +kernel
theorem dX7_drift_19 : decode cX7_drift 19 = .ok (.aload_n 0, 1) := by decide +kernel
theorem dX7_drift_20 : decode cX7_drift 20 = .ok (.iconst 1, 1) := by decide +kernel
theorem dX7_drift_21 : decode cX7_drift 21 = .ok (.invokevirtual 62, 3) := by decide +kernel
theorem dX7_drift_24 : decode cX7_drift 24 = .ok (.ireturn, 1) := by decide +kernel
theorem dX7_drift_25 : decode cX7_drift 25 = .ok (.aload_n 0, 1) := by decide +kernel
theorem dX7_drift_26 : decode cX7_drift 26 = .ok (.getfield 12, 3) := by decide +kernel
theorem dX7_drift_29 : decode cX7_drift 29 = .ok (.getfield 73, 3) := by decide +kernel
theorem dX7_drift_32 : decode cX7_drift 32 = .ok (.iload_n 1, 1) := by decide +kernel
theorem dX7_drift_33 : decode cX7_drift 33 = .ok (.iaload, 1) := by decide +kernel
theorem dX7_drift_34 : decode cX7_drift 34 = .ok (.istore_n 3, 1) := by decide +kernel
theorem dX7_drift_35 : decode cX7_drift 35 = .ok (.aload_n 0, 1) := by decide +kernel
theorem dX7_drift_36 : decode cX7_drift 36 = .ok (.getfield 12, 3) := by decide +kernel
theorem dX7_drift_39 : decode cX7_drift 39 = .ok (.getfield 73, 3) := by decide +kernel
theorem dX7_drift_42 : decode cX7_drift 42 = .ok (.iload_n 1, 1) := by decide +kernel
theorem dX7_drift_43 : decode cX7_drift 43 = .ok (.iload_n 2, 1) := by decide +kernel
theorem dX7_drift_44 : decode cX7_drift 44 = .ok (.iastore, 1) := by decide +kernel
theorem dX7_drift_45 : decode cX7_drift 45 = .ok (.iload_n 3, 1) := by decide +kernel
theorem dX7_drift_46 : decode cX7_drift 46 = .ok (.ireturn, 1) := by decide +kernel
theorem dX7_ship_0 : decode cX7_ship 0 = .ok (.iload_n 1, 1) := by decide +kernel
theorem dX7_ship_1 : decode cX7_ship 1 = .ok (.bipush 64, 2) := by decide +kernel
theorem dX7_ship_3 : decode cX7_ship 3 = .ok (.invokestatic 58, 3) := by decide +kernel
theorem dX7_ship_6 : decode cX7_ship 6 = .ok (.ifCond .eq 12, 3) := by decide +kernel
theorem dX7_ship_9 : decode cX7_ship 9 = .ok (.iload_n 2, 1) := by decide +kernel
theorem dX7_ship_10 : decode cX7_ship 10 = .ok (.bipush 64, 2) := by decide +kernel
theorem dX7_ship_12 : decode cX7_ship 12 = .ok (.invokestatic 58, 3) := by decide +kernel
theorem dX7_ship_15 : decode cX7_ship 15 = .ok (.ifCond .ne 9, 3) := by decide +kernel
theorem dX7_ship_18 : decode cX7_ship 18 = .ok (.aload_n 0, 1) := by decide +kernel
theorem dX7_ship_19 : decode cX7_ship 19 = .ok (.iconst 1, 1) := by decide +kernel
theorem dX7_ship_20 : decode cX7_ship 20 = .ok (.invokevirtual 62, 3) := by decide +kernel
theorem dX7_ship_23 : decode cX7_ship 23 = .ok (.ireturn, 1) := by decide +kernel
theorem dX7_ship_24 : decode cX7_ship 24 = .ok (.aload_n 0, 1) := by decide +kernel
theorem dX7_ship_25 : decode cX7_ship 25 = .ok (.getfield 12, 3) := by decide +kernel
theorem dX7_ship_28 : decode cX7_ship 28 = .ok (.getfield 76, 3) := by decide +kernel
theorem dX7_ship_31 : decode cX7_ship 31 = .ok (.iconst 5, 1) := by decide +kernel
theorem dX7_ship_32 : decode cX7_ship 32 = .ok (.if_icmp .lt 9, 3) := by decide +kernel
theorem dX7_ship_35 : decode cX7_ship 35 = .ok (.aload_n 0, 1) := by decide +kernel
theorem dX7_ship_36 : decode cX7_ship 36 = .ok (.iconst 4, 1) := by decide +kernel
theorem dX7_ship_37 : decode cX7_ship 37 = .ok (.invokevirtual 62, 3) := by decide +kernel
theorem dX7_ship_40 : decode cX7_ship 40 = .ok (.ireturn, 1) := by decide +kernel
theorem dX7_ship_41 : decode cX7_ship 41 = .ok (.aload_n 0, 1) := by decide +kernel
theorem dX7_ship_42 : decode cX7_ship 42 = .ok (.getfield 12, 3) := by decide +kernel
theorem dX7_ship_45 : decode cX7_ship 45 = .ok (.iload_n 1, 1) := by decide +kernel
theorem dX7_ship_46 : decode cX7_ship 46 = .ok (.iload_n 2, 1) := by decide +kernel
theorem dX7_ship_47 : decode cX7_ship 47 = .ok (.invokevirtual 80, 3) := by decide +kernel
theorem dX7_ship_50 : decode cX7_ship 50 = .ok (.ireturn, 1) := by decide +kernel
theorem dX7_shipIs_0 : decode cX7_shipIs 0 = .ok (.aload_n 0, 1) := by decide +kernel
theorem dX7_shipIs_1 : decode cX7_shipIs 1 = .ok (.iload_n 1, 1) := by decide +kernel
theorem dX7_shipIs_2 : decode cX7_shipIs 2 = .ok (.invokevirtual 84, 3) := by decide +kernel
theorem dX7_shipIs_5 : decode cX7_shipIs 5 = .ok (.ifCond .eq 11, 3) := by decide +kernel
theorem dX7_shipIs_8 : decode cX7_shipIs 8 = .ok (.iload_n 2, 1) := by decide +kernel
theorem dX7_shipIs_9 : decode cX7_shipIs 9 = .ok (.iconst 5, 1) := by decide +kernel
theorem dX7_shipIs_10 : decode cX7_shipIs 10 = .ok (.invokestatic 58, 3) := by decide +kernel
theorem dX7_shipIs_13 : decode cX7_shipIs 13 = .ok (.ifCond .ne 9, 3) := by decide +kernel
theorem dX7_shipIs_16 : decode cX7_shipIs 16 = .ok (.aload_n 0, 1) := by decide +kernel
theorem dX7_shipIs_17 : decode cX7_shipIs 17 = .ok (.iconst 1, 1) := by decide +kernel
theorem dX7_shipIs_18 : decode cX7_shipIs 18 = .ok (.invokevirtual 62, 3) := by decide +kernel
theorem dX7_shipIs_21 : decode cX7_shipIs 21 = .ok (.ireturn, 1) := by decide +kernel
theorem dX7_shipIs_22 : decode cX7_shipIs 22 = .ok (.aload_n 0, 1) := by decide +kernel
theorem dX7_shipIs_23 : decode cX7_shipIs 23 = .ok (.getfield 12, 3) := by decide +kernel
theorem dX7_shipIs_26 : decode cX7_shipIs 26 = .ok (.iload_n 1, 1) := by decide +kernel
theorem dX7_shipIs_27 : decode cX7_shipIs 27 = .ok (.aload_n 0, 1) := by decide +kernel
theorem dX7_shipIs_28 : decode cX7_shipIs 28 = .ok (.getfield 12, 3) := by decide +kernel
theorem dX7_shipIs_31 : decode cX7_shipIs 31 = .ok (.getfield 88, 3) := by decide +kernel
theorem dX7_shipIs_34 : decode cX7_shipIs 34 = .ok (.iload_n 1, 1) := by decide +kernel
theorem dX7_shipIs_35 : decode cX7_shipIs 35 = .ok (.iaload, 1) := by decide +kernel
theorem dX7_shipIs_36 : decode cX7_shipIs 36 = .ok (.iload_n 2, 1) := by decide +kernel
theorem dX7_shipIs_37 : decode cX7_shipIs 37 = .ok (.invokevirtual 91, 3) := by decide +kernel
theorem dX7_shipIs_40 : decode cX7_shipIs 40 = .ok (.ireturn, 1) := by decide +kernel
theorem dX7_bring_0 : decode cX7_bring 0 = .ok (.aload_n 0, 1) := by decide +kernel
theorem dX7_bring_1 : decode cX7_bring 1 = .ok (.iload_n 1, 1) := by decide +kernel
theorem dX7_bring_2 : decode cX7_bring 2 = .ok (.invokevirtual 84, 3) := by decide +kernel
theorem dX7_bring_5 : decode cX7_bring 5 = .ok (.ifCond .eq 12, 3) := by decide +kernel
theorem dX7_bring_8 : decode cX7_bring 8 = .ok (.iload_n 2, 1) := by decide +kernel
theorem dX7_bring_9 : decode cX7_bring 9 = .ok (.bipush 64, 2) := by decide +kernel
theorem dX7_bring_11 : decode cX7_bring 11 = .ok (.invokestatic 58, 3) := by decide +kernel
theorem dX7_bring_14 : decode cX7_bring 14 = .ok (.ifCond .ne 9, 3) := by decide +kernel
theorem dX7_bring_17 : decode cX7_bring 17 = .ok (.aload_n 0, 1) := by decide +kernel
theorem dX7_bring_18 : decode cX7_bring 18 = .ok (.iconst 1, 1) := by decide +kernel
theorem dX7_bring_19 : decode cX7_bring 19 = .ok (.invokevirtual 62, 3) := by decide +kernel
theorem dX7_bring_22 : decode cX7_bring 22 = .ok (.ireturn, 1) := by decide +kernel
theorem dX7_bring_23 : decode cX7_bring 23 = .ok (.aload_n 0, 1) := by decide +kernel
theorem dX7_bring_24 : decode cX7_bring 24 = .ok (.getfield 12, 3) := by decide +kernel
theorem dX7_bring_27 : decode cX7_bring 27 = .ok (.getfield 88, 3) := by decide +kernel
theorem dX7_bring_30 : decode cX7_bring 30 = .ok (.iload_n 1, 1) := by decide +kernel
theorem dX7_bring_31 : decode cX7_bring 31 = .ok (.iaload, 1) := by decide +kernel
theorem dX7_bring_32 : decode cX7_bring 32 = .ok (.invokestatic 95, 3) := by decide +kernel
theorem dX7_bring_35 : decode cX7_bring 35 = .ok (.istore_n 3, 1) := by decide +kernel
theorem dX7_bring_36 : decode cX7_bring 36 = .ok (.aload_n 0, 1) := by decide +kernel
theorem dX7_bring_37 : decode cX7_bring 37 = .ok (.getfield 12, 3) := by decide +kernel
theorem dX7_bring_40 : decode cX7_bring 40 = .ok (.getfield 88, 3) := by decide +kernel
theorem dX7_bring_43 : decode cX7_bring 43 = .ok (.iload_n 1, 1) := by decide +kernel
theorem dX7_bring_44 : decode cX7_bring 44 = .ok (.iload_n 2, 1) := by decide +kernel
theorem dX7_bring_45 : decode cX7_bring 45 = .ok (.aload_n 0, 1) := by decide +kernel
theorem dX7_bring_46 : decode cX7_bring 46 = .ok (.getfield 12, 3) := by decide +kernel
theorem dX7_bring_49 : decode cX7_bring 49 = .ok (.getfield 98, 3) := by decide +kernel
theorem dX7_bring_52 : decode cX7_bring 52 = .ok (.iload_n 1, 1) := by decide +kernel
theorem dX7_bring_53 : decode cX7_bring 53 = .ok (.iaload, 1) := by decide +kernel
theorem dX7_bring_54 : decode cX7_bring 54 = .ok (.invokestatic 101, 3) := by decide +kernel
theorem dX7_bring_57 : decode cX7_bring 57 = .ok (.iastore, 1) := by decide +kernel
theorem dX7_bring_58 : decode cX7_bring 58 = .ok (.iload_n 3, 1) := by decide +kernel
theorem dX7_bring_59 : decode cX7_bring 59 = .ok (.ireturn, 1) := by decide +kernel
theorem dX7_tie_0 : decode cX7_tie 0 = .ok (.aload_n 0, 1) := by decide +kernel
theorem dX7_tie_1 : decode cX7_tie 1 = .ok (.iload_n 1, 1) := by decide +kernel
theorem dX7_tie_2 : decode cX7_tie 2 = .ok (.iload_n 2, 1) := by decide +kernel
theorem dX7_tie_3 : decode cX7_tie 3 = .ok (.invokevirtual 104, 3) := by decide +kernel
theorem dX7_tie_6 : decode cX7_tie 6 = .ok (.ifCond .eq 21, 3) := by decide +kernel
theorem dX7_tie_9 : decode cX7_tie 9 = .ok (.iload_n 3, 1) := by decide +kernel
theorem dX7_tie_10 : decode cX7_tie 10 = .ok (.bipush 70, 2) := by decide +kernel
theorem dX7_tie_12 : decode cX7_tie 12 = .ok (.invokestatic 58, 3) := by decide +kernel
theorem dX7_tie_15 : decode cX7_tie 15 = .ok (.ifCond .eq 12, 3) := by decide +kernel
theorem dX7_tie_18 : decode cX7_tie 18 = .ok (.iload 4, 2) := by decide +kernel
theorem dX7_tie_20 : decode cX7_tie 20 = .ok (.iconst 4, 1) := by decide +kernel
theorem dX7_tie_21 : decode cX7_tie 21 = .ok (.invokestatic 58, 3) := by decide +kernel
theorem dX7_tie_24 : decode cX7_tie 24 = .ok (.ifCond .ne 9, 3) := by decide +kernel
theorem dX7_tie_27 : decode cX7_tie 27 = .ok (.aload_n 0, 1) := by decide +kernel
theorem dX7_tie_28 : decode cX7_tie 28 = .ok (.iconst 1, 1) := by decide +kernel
theorem dX7_tie_29 : decode cX7_tie 29 = .ok (.invokevirtual 62, 3) := by decide +kernel
theorem dX7_tie_32 : decode cX7_tie 32 = .ok (.ireturn, 1) := by decide +kernel
theorem dX7_tie_33 : decode cX7_tie 33 = .ok (.iconst 3, 1) := by decide +kernel
theorem dX7_tie_34 : decode cX7_tie 34 = .ok (.iload_n 1, 1) := by decide +kernel
theorem dX7_tie_35 : decode cX7_tie 35 = .ok (.imul, 1) := by decide +kernel
theorem dX7_tie_36 : decode cX7_tie 36 = .ok (.iload_n 2, 1) := by decide +kernel
theorem dX7_tie_37 : decode cX7_tie 37 = .ok (.iadd, 1) := by decide +kernel
theorem dX7_tie_38 : decode cX7_tie 38 = .ok (.istore 5, 2) := by decide +kernel
theorem dX7_tie_40 : decode cX7_tie 40 = .ok (.bipush 100, 2) := by decide +kernel
theorem dX7_tie_42 : decode cX7_tie 42 = .ok (.aload_n 0, 1) := by decide +kernel
theorem dX7_tie_43 : decode cX7_tie 43 = .ok (.getfield 12, 3) := by decide +kernel
theorem dX7_tie_46 : decode cX7_tie 46 = .ok (.getfield 107, 3) := by decide +kernel
theorem dX7_tie_49 : decode cX7_tie 49 = .ok (.iload 5, 2) := by decide +kernel
theorem dX7_tie_51 : decode cX7_tie 51 = .ok (.iaload, 1) := by decide +kernel
theorem dX7_tie_52 : decode cX7_tie 52 = .ok (.imul, 1) := by decide +kernel
theorem dX7_tie_53 : decode cX7_tie 53 = .ok (.bipush 10, 2) := by decide +kernel
theorem dX7_tie_55 : decode cX7_tie 55 = .ok (.aload_n 0, 1) := by decide +kernel
theorem dX7_tie_56 : decode cX7_tie 56 = .ok (.getfield 12, 3) := by decide +kernel
theorem dX7_tie_59 : decode cX7_tie 59 = .ok (.getfield 110, 3) := by decide +kernel
theorem dX7_tie_62 : decode cX7_tie 62 = .ok (.iload 5, 2) := by decide +kernel
theorem dX7_tie_64 : decode cX7_tie 64 = .ok (.iaload, 1) := by decide +kernel
theorem dX7_tie_65 : decode cX7_tie 65 = .ok (.imul, 1) := by decide +kernel
theorem dX7_tie_66 : decode cX7_tie 66 = .ok (.iadd, 1) := by decide +kernel
theorem dX7_tie_67 : decode cX7_tie 67 = .ok (.aload_n 0, 1) := by decide +kernel
theorem dX7_tie_68 : decode cX7_tie 68 = .ok (.getfield 12, 3) := by decide +kernel
theorem dX7_tie_71 : decode cX7_tie 71 = .ok (.getfield 113, 3) := by decide +kernel
theorem dX7_tie_74 : decode cX7_tie 74 = .ok (.iload 5, 2) := by decide +kernel
theorem dX7_tie_76 : decode cX7_tie 76 = .ok (.iaload, 1) := by decide +kernel
theorem dX7_tie_77 : decode cX7_tie 77 = .ok (.iadd, 1) := by decide +kernel
theorem dX7_tie_78 : decode cX7_tie 78 = .ok (.istore 6, 2) := by decide +kernel
theorem dX7_tie_80 : decode cX7_tie 80 = .ok (.aload_n 0, 1) := by decide +kernel
theorem dX7_tie_81 : decode cX7_tie 81 = .ok (.getfield 12, 3) := by decide +kernel
theorem dX7_tie_84 : decode cX7_tie 84 = .ok (.iload 5, 2) := by decide +kernel
theorem dX7_tie_86 : decode cX7_tie 86 = .ok (.iload_n 3, 1) := by decide +kernel
theorem dX7_tie_87 : decode cX7_tie 87 = .ok (.iload 4, 2) := by decide +kernel
theorem dX7_tie_89 : decode cX7_tie 89 = .ok (.invokevirtual 116, 3) := by decide +kernel
theorem dX7_tie_92 : decode cX7_tie 92 = .ok (.iload 6, 2) := by decide +kernel
theorem dX7_tie_94 : decode cX7_tie 94 = .ok (.ireturn, 1) := by decide +kernel
theorem dX7_knotIs_0 : decode cX7_knotIs 0 = .ok (.aload_n 0, 1) := by decide +kernel
theorem dX7_knotIs_1 : decode cX7_knotIs 1 = .ok (.iload_n 1, 1) := by decide +kernel
theorem dX7_knotIs_2 : decode cX7_knotIs 2 = .ok (.iload_n 2, 1) := by decide +kernel
theorem dX7_knotIs_3 : decode cX7_knotIs 3 = .ok (.invokevirtual 104, 3) := by decide +kernel
theorem dX7_knotIs_6 : decode cX7_knotIs 6 = .ok (.ifCond .eq 12, 3) := by decide +kernel
theorem dX7_knotIs_9 : decode cX7_knotIs 9 = .ok (.iload_n 3, 1) := by decide +kernel
theorem dX7_knotIs_10 : decode cX7_knotIs 10 = .ok (.bipush 6, 2) := by decide +kernel
theorem dX7_knotIs_12 : decode cX7_knotIs 12 = .ok (.invokestatic 58, 3) := by decide +kernel
theorem dX7_knotIs_15 : decode cX7_knotIs 15 = .ok (.ifCond .ne 9, 3) := by decide +kernel
theorem dX7_knotIs_18 : decode cX7_knotIs 18 = .ok (.aload_n 0, 1) := by decide +kernel
theorem dX7_knotIs_19 : decode cX7_knotIs 19 = .ok (.iconst 1, 1) := by decide +kernel
theorem dX7_knotIs_20 : decode cX7_knotIs 20 = .ok (.invokevirtual 62, 3) := by decide +kernel
theorem dX7_knotIs_23 : decode cX7_knotIs 23 = .ok (.ireturn, 1) := by decide +kernel
theorem dX7_knotIs_24 : decode cX7_knotIs 24 = .ok (.aload_n 0, 1) := by decide +kernel
theorem dX7_knotIs_25 : decode cX7_knotIs 25 = .ok (.getfield 12, 3) := by decide +kernel
theorem dX7_knotIs_28 : decode cX7_knotIs 28 = .ok (.iconst 3, 1) := by decide +kernel
theorem dX7_knotIs_29 : decode cX7_knotIs 29 = .ok (.iload_n 1, 1) := by decide +kernel
theorem dX7_knotIs_30 : decode cX7_knotIs 30 = .ok (.imul, 1) := by decide +kernel
theorem dX7_knotIs_31 : decode cX7_knotIs 31 = .ok (.iload_n 2, 1) := by decide +kernel
theorem dX7_knotIs_32 : decode cX7_knotIs 32 = .ok (.iadd, 1) := by decide +kernel
theorem dX7_knotIs_33 : decode cX7_knotIs 33 = .ok (.iload_n 3, 1) := by decide +kernel
theorem dX7_knotIs_34 : decode cX7_knotIs 34 = .ok (.invokevirtual 120, 3) := by decide +kernel
theorem dX7_knotIs_37 : decode cX7_knotIs 37 = .ok (.ireturn, 1) := by decide +kernel
theorem dX7_as_0 : decode cX7_as 0 = .ok (.aload_n 0, 1) := by decide +kernel
theorem dX7_as_1 : decode cX7_as 1 = .ok (.iload_n 1, 1) := by decide +kernel
theorem dX7_as_2 : decode cX7_as 2 = .ok (.iload_n 2, 1) := by decide +kernel
theorem dX7_as_3 : decode cX7_as 3 = .ok (.invokevirtual 104, 3) := by decide +kernel
theorem dX7_as_6 : decode cX7_as 6 = .ok (.ifCond .eq 12, 3) := by decide +kernel
theorem dX7_as_9 : decode cX7_as 9 = .ok (.iload_n 3, 1) := by decide +kernel
theorem dX7_as_10 : decode cX7_as 10 = .ok (.bipush 7, 2) := by decide +kernel
theorem dX7_as_12 : decode cX7_as 12 = .ok (.invokestatic 58, 3) := by decide +kernel
theorem dX7_as_15 : decode cX7_as 15 = .ok (.ifCond .ne 9, 3) := by decide +kernel
theorem dX7_as_18 : decode cX7_as 18 = .ok (.aload_n 0, 1) := by decide +kernel
theorem dX7_as_19 : decode cX7_as 19 = .ok (.iconst 1, 1) := by decide +kernel
theorem dX7_as_20 : decode cX7_as 20 = .ok (.invokevirtual 62, 3) := by decide +kernel
theorem dX7_as_23 : decode cX7_as 23 = .ok (.ireturn, 1) := by decide +kernel
theorem dX7_as_24 : decode cX7_as 24 = .ok (.iconst 3, 1) := by decide +kernel
theorem dX7_as_25 : decode cX7_as 25 = .ok (.iload_n 1, 1) := by decide +kernel
theorem dX7_as_26 : decode cX7_as 26 = .ok (.imul, 1) := by decide +kernel
theorem dX7_as_27 : decode cX7_as 27 = .ok (.iload_n 2, 1) := by decide +kernel
theorem dX7_as_28 : decode cX7_as 28 = .ok (.iadd, 1) := by decide +kernel
theorem dX7_as_29 : decode cX7_as 29 = .ok (.istore 4, 2) := by decide +kernel
theorem dX7_as_31 : decode cX7_as 31 = .ok (.aload_n 0, 1) := by decide +kernel
theorem dX7_as_32 : decode cX7_as 32 = .ok (.getfield 12, 3) := by decide +kernel
theorem dX7_as_35 : decode cX7_as 35 = .ok (.getfield 110, 3) := by decide +kernel
theorem dX7_as_38 : decode cX7_as 38 = .ok (.iload 4, 2) := by decide +kernel
theorem dX7_as_40 : decode cX7_as 40 = .ok (.iaload, 1) := by decide +kernel
theorem dX7_as_41 : decode cX7_as 41 = .ok (.iload_n 3, 1) := by decide +kernel
theorem dX7_as_42 : decode cX7_as 42 = .ok (.invokestatic 123, 3) := by decide +kernel
theorem dX7_as_45 : decode cX7_as 45 = .ok (.ifCond .ne 9, 3) := by decide +kernel
theorem dX7_as_48 : decode cX7_as 48 = .ok (.aload_n 0, 1) := by decide +kernel
theorem dX7_as_49 : decode cX7_as 49 = .ok (.iconst 5, 1) := by decide +kernel
theorem dX7_as_50 : decode cX7_as 50 = .ok (.invokevirtual 62, 3) := by decide +kernel
theorem dX7_as_53 : decode cX7_as 53 = .ok (.ireturn, 1) := by decide +kernel
theorem dX7_as_54 : decode cX7_as 54 = .ok (.aload_n 0, 1) := by decide +kernel
theorem dX7_as_55 : decode cX7_as 55 = .ok (.getfield 12, 3) := by decide +kernel
theorem dX7_as_58 : decode cX7_as 58 = .ok (.getfield 113, 3) := by decide +kernel
theorem dX7_as_61 : decode cX7_as 61 = .ok (.iload 4, 2) := by decide +kernel
theorem dX7_as_63 : decode cX7_as 63 = .ok (.iaload, 1) := by decide +kernel
theorem dX7_as_64 : decode cX7_as 64 = .ok (.ireturn, 1) := by decide +kernel
theorem dX7_loose_0 : decode cX7_loose 0 = .ok (.aload_n 0, 1) := by decide +kernel
theorem dX7_loose_1 : decode cX7_loose 1 = .ok (.iload_n 1, 1) := by decide +kernel
theorem dX7_loose_2 : decode cX7_loose 2 = .ok (.iload_n 2, 1) := by decide +kernel
theorem dX7_loose_3 : decode cX7_loose 3 = .ok (.invokevirtual 104, 3) := by decide +kernel
theorem dX7_loose_6 : decode cX7_loose 6 = .ok (.ifCond .ne 9, 3) := by decide +kernel
theorem dX7_loose_9 : decode cX7_loose 9 = .ok (.aload_n 0, 1) := by decide +kernel
theorem dX7_loose_10 : decode cX7_loose 10 = .ok (.iconst 1, 1) := by decide +kernel
theorem dX7_loose_11 : decode cX7_loose 11 = .ok (.invokevirtual 62, 3) := by decide +kernel
theorem dX7_loose_14 : decode cX7_loose 14 = .ok (.ireturn, 1) := by decide +kernel
theorem dX7_loose_15 : decode cX7_loose 15 = .ok (.iconst 3, 1) := by decide +kernel
theorem dX7_loose_16 : decode cX7_loose 16 = .ok (.iload_n 1, 1) := by decide +kernel
theorem dX7_loose_17 : decode cX7_loose 17 = .ok (.imul, 1) := by decide +kernel
theorem dX7_loose_18 : decode cX7_loose 18 = .ok (.iload_n 2, 1) := by decide +kernel
theorem dX7_loose_19 : decode cX7_loose 19 = .ok (.iadd, 1) := by decide +kernel
theorem dX7_loose_20 : decode cX7_loose 20 = .ok (.istore_n 3, 1) := by decide +kernel
theorem dX7_loose_21 : decode cX7_loose 21 = .ok (.aload_n 0, 1) := by decide +kernel
theorem dX7_loose_22 : decode cX7_loose 22 = .ok (.getfield 12, 3) := by decide +kernel
theorem dX7_loose_25 : decode cX7_loose 25 = .ok (.iload_n 3, 1) := by decide +kernel
theorem dX7_loose_26 : decode cX7_loose 26 = .ok (.aload_n 0, 1) := by decide +kernel
theorem dX7_loose_27 : decode cX7_loose 27 = .ok (.getfield 12, 3) := by decide +kernel
theorem dX7_loose_30 : decode cX7_loose 30 = .ok (.getfield 126, 3) := by decide +kernel
theorem dX7_loose_33 : decode cX7_loose 33 = .ok (.aload_n 0, 1) := by decide +kernel
theorem dX7_loose_34 : decode cX7_loose 34 = .ok (.getfield 12, 3) := by decide +kernel
theorem dX7_loose_37 : decode cX7_loose 37 = .ok (.getfield 88, 3) := by decide +kernel
theorem dX7_loose_40 : decode cX7_loose 40 = .ok (.iload_n 1, 1) := by decide +kernel
theorem dX7_loose_41 : decode cX7_loose 41 = .ok (.iaload, 1) := by decide +kernel
theorem dX7_loose_42 : decode cX7_loose 42 = .ok (.invokevirtual 129, 3) := by decide +kernel
theorem dX7_loose_45 : decode cX7_loose 45 = .ok (.ifCond .ne 9, 3) := by decide +kernel
theorem dX7_loose_48 : decode cX7_loose 48 = .ok (.aload_n 0, 1) := by decide +kernel
theorem dX7_loose_49 : decode cX7_loose 49 = .ok (.iconst 3, 1) := by decide +kernel
theorem dX7_loose_50 : decode cX7_loose 50 = .ok (.invokevirtual 62, 3) := by decide +kernel
theorem dX7_loose_53 : decode cX7_loose 53 = .ok (.ireturn, 1) := by decide +kernel
theorem dX7_loose_54 : decode cX7_loose 54 = .ok (.aload_n 0, 1) := by decide +kernel
theorem dX7_loose_55 : decode cX7_loose 55 = .ok (.getfield 12, 3) := by decide +kernel
theorem dX7_loose_58 : decode cX7_loose 58 = .ok (.getfield 132, 3) := by decide +kernel
theorem dX7_loose_61 : decode cX7_loose 61 = .ok (.iload_n 3, 1) := by decide +kernel
theorem dX7_loose_62 : decode cX7_loose 62 = .ok (.aload_n 0, 1) := by decide +kernel
theorem dX7_loose_63 : decode cX7_loose 63 = .ok (.getfield 12, 3) := by decide +kernel
theorem dX7_loose_66 : decode cX7_loose 66 = .ok (.getfield 126, 3) := by decide +kernel
theorem dX7_loose_69 : decode cX7_loose 69 = .ok (.iastore, 1) := by decide +kernel
theorem dX7_loose_70 : decode cX7_loose 70 = .ok (.aload_n 0, 1) := by decide +kernel
theorem dX7_loose_71 : decode cX7_loose 71 = .ok (.getfield 12, 3) := by decide +kernel
theorem dX7_loose_74 : decode cX7_loose 74 = .ok (.iload_n 3, 1) := by decide +kernel
theorem dX7_loose_75 : decode cX7_loose 75 = .ok (.iconst 0, 1) := by decide +kernel
theorem dX7_loose_76 : decode cX7_loose 76 = .ok (.invokevirtual 135, 3) := by decide +kernel
theorem dX7_loose_79 : decode cX7_loose 79 = .ok (.ireturn, 1) := by decide +kernel
theorem dX7_wind_0 : decode cX7_wind 0 = .ok (.iload_n 1, 1) := by decide +kernel
theorem dX7_wind_1 : decode cX7_wind 1 = .ok (.iconst 2, 1) := by decide +kernel
theorem dX7_wind_2 : decode cX7_wind 2 = .ok (.invokestatic 58, 3) := by decide +kernel
theorem dX7_wind_5 : decode cX7_wind 5 = .ok (.ifCond .ne 9, 3) := by decide +kernel
theorem dX7_wind_8 : decode cX7_wind 8 = .ok (.aload_n 0, 1) := by decide +kernel
theorem dX7_wind_9 : decode cX7_wind 9 = .ok (.iconst 1, 1) := by decide +kernel
theorem dX7_wind_10 : decode cX7_wind 10 = .ok (.invokevirtual 62, 3) := by decide +kernel
theorem dX7_wind_13 : decode cX7_wind 13 = .ok (.ireturn, 1) := by decide +kernel
theorem dX7_wind_14 : decode cX7_wind 14 = .ok (.aload_n 0, 1) := by decide +kernel
theorem dX7_wind_15 : decode cX7_wind 15 = .ok (.getfield 12, 3) := by decide +kernel
theorem dX7_wind_18 : decode cX7_wind 18 = .ok (.iload_n 1, 1) := by decide +kernel
theorem dX7_wind_19 : decode cX7_wind 19 = .ok (.aload_n 0, 1) := by decide +kernel
theorem dX7_wind_20 : decode cX7_wind 20 = .ok (.getfield 12, 3) := by decide +kernel
theorem dX7_wind_23 : decode cX7_wind 23 = .ok (.getfield 126, 3) := by decide +kernel
theorem dX7_wind_26 : decode cX7_wind 26 = .ok (.invokevirtual 138, 3) := by decide +kernel
theorem dX7_wind_29 : decode cX7_wind 29 = .ok (.ireturn, 1) := by decide +kernel
theorem dX7_feed_0 : decode cX7_feed 0 = .ok (.iload_n 3, 1) := by decide +kernel
theorem dX7_feed_1 : decode cX7_feed 1 = .ok (.iconst 1, 1) := by decide +kernel
theorem dX7_feed_2 : decode cX7_feed 2 = .ok (.bipush 8, 2) := by decide +kernel
theorem dX7_feed_4 : decode cX7_feed 4 = .ok (.invokestatic 69, 3) := by decide +kernel
theorem dX7_feed_7 : decode cX7_feed 7 = .ok (.ifCond .ne 9, 3) := by decide +kernel
theorem dX7_feed_10 : decode cX7_feed 10 = .ok (.aload_n 0, 1) := by decide +kernel
theorem dX7_feed_11 : decode cX7_feed 11 = .ok (.iconst 1, 1) := by decide +kernel
theorem dX7_feed_12 : decode cX7_feed 12 = .ok (.invokevirtual 62, 3) := by decide +kernel
theorem dX7_feed_15 : decode cX7_feed 15 = .ok (.ireturn, 1) := by decide +kernel
theorem dX7_feed_16 : decode cX7_feed 16 = .ok (.aload_n 0, 1) := by decide +kernel
theorem dX7_feed_17 : decode cX7_feed 17 = .ok (.getfield 12, 3) := by decide +kernel
theorem dX7_feed_20 : decode cX7_feed 20 = .ok (.getfield 141, 3) := by decide +kernel
theorem dX7_feed_23 : decode cX7_feed 23 = .ok (.iload_n 3, 1) := by decide +kernel
theorem dX7_feed_24 : decode cX7_feed 24 = .ok (.iadd, 1) := by decide +kernel
theorem dX7_feed_25 : decode cX7_feed 25 = .ok (.bipush 60, 2) := by decide +kernel
theorem dX7_feed_27 : decode cX7_feed 27 = .ok (.if_icmp .le 9, 3) := by decide +kernel
theorem dX7_feed_30 : decode cX7_feed 30 = .ok (.aload_n 0, 1) := by decide +kernel
theorem dX7_feed_31 : decode cX7_feed 31 = .ok (.iconst 4, 1) := by decide +kernel
theorem dX7_feed_32 : decode cX7_feed 32 = .ok (.invokevirtual 62, 3) := by decide +kernel
theorem dX7_feed_35 : decode cX7_feed 35 = .ok (.ireturn, 1) := by decide +kernel
theorem dX7_feed_36 : decode cX7_feed 36 = .ok (.iconst 0, 1) := by decide +kernel
theorem dX7_feed_37 : decode cX7_feed 37 = .ok (.istore 4, 2) := by decide +kernel
theorem dX7_feed_39 : decode cX7_feed 39 = .ok (.iload 4, 2) := by decide +kernel
theorem dX7_feed_41 : decode cX7_feed 41 = .ok (.iload_n 3, 1) := by decide +kernel
theorem dX7_feed_42 : decode cX7_feed 42 = .ok (.if_icmp .ge 49, 3) := by decide +kernel
theorem dX7_feed_45 : decode cX7_feed 45 = .ok (.aload_n 0, 1) := by decide +kernel
theorem dX7_feed_46 : decode cX7_feed 46 = .ok (.getfield 12, 3) := by decide +kernel
theorem dX7_feed_49 : decode cX7_feed 49 = .ok (.getfield 144, 3) := by decide +kernel
theorem dX7_feed_52 : decode cX7_feed 52 = .ok (.aload_n 0, 1) := by decide +kernel
theorem dX7_feed_53 : decode cX7_feed 53 = .ok (.getfield 12, 3) := by decide +kernel
theorem dX7_feed_56 : decode cX7_feed 56 = .ok (.getfield 141, 3) := by decide +kernel
theorem dX7_feed_59 : decode cX7_feed 59 = .ok (.lload_n 1, 1) := by decide +kernel
theorem dX7_feed_60 : decode cX7_feed 60 = .ok (.bipush 8, 2) := by decide +kernel
theorem dX7_feed_62 : decode cX7_feed 62 = .ok (.iload 4, 2) := by decide +kernel
theorem dX7_feed_64 : decode cX7_feed 64 = .ok (.imul, 1) := by decide +kernel
theorem dX7_feed_65 : decode cX7_feed 65 = .ok (.lushr, 1) := by decide +kernel
theorem dX7_feed_66 : decode cX7_feed 66 = .ok (.ldc2_w 147, 3) := by decide +kernel
theorem dX7_feed_69 : decode cX7_feed 69 = .ok (.land, 1) := by decide +kernel
theorem dX7_feed_70 : decode cX7_feed 70 = .ok (.l2i, 1) := by decide +kernel
theorem dX7_feed_71 : decode cX7_feed 71 = .ok (.iastore, 1) := by decide +kernel
theorem dX7_feed_72 : decode cX7_feed 72 = .ok (.aload_n 0, 1) := by decide +kernel
theorem dX7_feed_73 : decode cX7_feed 73 = .ok (.getfield 12, 3) := by decide +kernel
theorem dX7_feed_76 : decode cX7_feed 76 = .ok (.dup, 1) := by decide +kernel
theorem dX7_feed_77 : decode cX7_feed 77 = .ok (.getfield 141, 3) := by decide +kernel
theorem dX7_feed_80 : decode cX7_feed 80 = .ok (.iconst 1, 1) := by decide +kernel
theorem dX7_feed_81 : decode cX7_feed 81 = .ok (.iadd, 1) := by decide +kernel
theorem dX7_feed_82 : decode cX7_feed 82 = .ok (.putfield 141, 3) := by decide +kernel
theorem dX7_feed_85 : decode cX7_feed 85 = .ok (.iinc 4 1, 3) := by decide +kernel
theorem dX7_feed_88 : decode cX7_feed 88 = .ok (.goto (-49), 3) := by decide +kernel
theorem dX7_feed_91 : decode cX7_feed 91 = .ok (.aload_n 0, 1) := by decide +kernel
theorem dX7_feed_92 : decode cX7_feed 92 = .ok (.getfield 12, 3) := by decide +kernel
theorem dX7_feed_95 : decode cX7_feed 95 = .ok (.getfield 141, 3) := by decide +kernel
theorem dX7_feed_98 : decode cX7_feed 98 = .ok (.ireturn, 1) := by decide +kernel
theorem dX7_text_0 : decode cX7_text 0 = .ok (.iload_n 1, 1) := by decide +kernel
theorem dX7_text_1 : decode cX7_text 1 = .ok (.iconst 2, 1) := by decide +kernel
theorem dX7_text_2 : decode cX7_text 2 = .ok (.invokestatic 58, 3) := by decide +kernel
theorem dX7_text_5 : decode cX7_text 5 = .ok (.ifCond .ne 9, 3) := by decide +kernel
theorem dX7_text_8 : decode cX7_text 8 = .ok (.aload_n 0, 1) := by decide +kernel
theorem dX7_text_9 : decode cX7_text 9 = .ok (.iconst 1, 1) := by decide +kernel
theorem dX7_text_10 : decode cX7_text 10 = .ok (.invokevirtual 62, 3) := by decide +kernel
theorem dX7_text_13 : decode cX7_text 13 = .ok (.ireturn, 1) := by decide +kernel
theorem dX7_text_14 : decode cX7_text 14 = .ok (.aload_n 0, 1) := by decide +kernel
theorem dX7_text_15 : decode cX7_text 15 = .ok (.getfield 22, 3) := by decide +kernel
theorem dX7_text_18 : decode cX7_text 18 = .ok (.aload_n 0, 1) := by decide +kernel
theorem dX7_text_19 : decode cX7_text 19 = .ok (.getfield 12, 3) := by decide +kernel
theorem dX7_text_22 : decode cX7_text 22 = .ok (.getfield 144, 3) := by decide +kernel
theorem dX7_text_25 : decode cX7_text 25 = .ok (.aload_n 0, 1) := by decide +kernel
theorem dX7_text_26 : decode cX7_text 26 = .ok (.getfield 12, 3) := by decide +kernel
theorem dX7_text_29 : decode cX7_text 29 = .ok (.getfield 141, 3) := by decide +kernel
theorem dX7_text_32 : decode cX7_text 32 = .ok (.iload_n 1, 1) := by decide +kernel
theorem dX7_text_33 : decode cX7_text 33 = .ok (.invokevirtual 149, 3) := by decide +kernel
theorem dX7_text_36 : decode cX7_text 36 = .ok (.istore_n 2, 1) := by decide +kernel
theorem dX7_text_37 : decode cX7_text 37 = .ok (.aload_n 0, 1) := by decide +kernel
theorem dX7_text_38 : decode cX7_text 38 = .ok (.getfield 12, 3) := by decide +kernel
theorem dX7_text_41 : decode cX7_text 41 = .ok (.iconst 0, 1) := by decide +kernel
theorem dX7_text_42 : decode cX7_text 42 = .ok (.putfield 141, 3) := by decide +kernel
theorem dX7_text_45 : decode cX7_text 45 = .ok (.iload_n 2, 1) := by decide +kernel
theorem dX7_text_46 : decode cX7_text 46 = .ok (.ifCond .lt 8, 3) := by decide +kernel
theorem dX7_text_49 : decode cX7_text 49 = .ok (.bipush (-10), 2) := by decide +kernel
theorem dX7_text_51 : decode cX7_text 51 = .ok (.iload_n 2, 1) := by decide +kernel
theorem dX7_text_52 : decode cX7_text 52 = .ok (.isub, 1) := by decide +kernel
theorem dX7_text_53 : decode cX7_text 53 = .ok (.ireturn, 1) := by decide +kernel
theorem dX7_text_54 : decode cX7_text 54 = .ok (.aload_n 0, 1) := by decide +kernel
theorem dX7_text_55 : decode cX7_text 55 = .ok (.getfield 12, 3) := by decide +kernel
theorem dX7_text_58 : decode cX7_text 58 = .ok (.iload_n 1, 1) := by decide +kernel
theorem dX7_text_59 : decode cX7_text 59 = .ok (.invokevirtual 153, 3) := by decide +kernel
theorem dX7_text_62 : decode cX7_text 62 = .ok (.aload_n 0, 1) := by decide +kernel
theorem dX7_text_63 : decode cX7_text 63 = .ok (.getfield 22, 3) := by decide +kernel
theorem dX7_text_66 : decode cX7_text 66 = .ok (.getfield 157, 3) := by decide +kernel
theorem dX7_text_69 : decode cX7_text 69 = .ok (.invokevirtual 161, 3) := by decide +kernel
theorem dX7_text_72 : decode cX7_text 72 = .ok (.iconst 1, 1) := by decide +kernel
theorem dX7_text_73 : decode cX7_text 73 = .ok (.ireturn, 1) := by decide +kernel
theorem dX7_untell_0 : decode cX7_untell 0 = .ok (.iload_n 1, 1) := by decide +kernel
theorem dX7_untell_1 : decode cX7_untell 1 = .ok (.iconst 2, 1) := by decide +kernel
theorem dX7_untell_2 : decode cX7_untell 2 = .ok (.invokestatic 58, 3) := by decide +kernel
theorem dX7_untell_5 : decode cX7_untell 5 = .ok (.ifCond .ne 9, 3) := by decide +kernel
theorem dX7_untell_8 : decode cX7_untell 8 = .ok (.aload_n 0, 1) := by decide +kernel
theorem dX7_untell_9 : decode cX7_untell 9 = .ok (.iconst 1, 1) := by decide +kernel
theorem dX7_untell_10 : decode cX7_untell 10 = .ok (.invokevirtual 62, 3) := by decide +kernel
theorem dX7_untell_13 : decode cX7_untell 13 = .ok (.ireturn, 1) := by decide +kernel
theorem dX7_untell_14 : decode cX7_untell 14 = .ok (.aload_n 0, 1) := by decide +kernel
theorem dX7_untell_15 : decode cX7_untell 15 = .ok (.getfield 12, 3) := by decide +kernel
theorem dX7_untell_18 : decode cX7_untell 18 = .ok (.iload_n 1, 1) := by decide +kernel
theorem dX7_untell_19 : decode cX7_untell 19 = .ok (.invokevirtual 153, 3) := by decide +kernel
theorem dX7_untell_22 : decode cX7_untell 22 = .ok (.astore_n 2, 1) := by decide +kernel
theorem dX7_untell_23 : decode cX7_untell 23 = .ok (.aload_n 2, 1) := by decide +kernel
theorem dX7_untell_24 : decode cX7_untell 24 = .ok (.invokevirtual 167, 3) := by decide +kernel
theorem dX7_untell_27 : decode cX7_untell 27 = .ok (.ifCond .eq 7, 3) := by decide +kernel
theorem dX7_untell_30 : decode cX7_untell 30 = .ok (.iconst 1, 1) := by decide +kernel
theorem dX7_untell_31 : decode cX7_untell 31 = .ok (.goto 4, 3) := by decide +kernel
theorem dX7_untell_34 : decode cX7_untell 34 = .ok (.iconst 0, 1) := by decide +kernel
theorem dX7_untell_35 : decode cX7_untell 35 = .ok (.istore_n 3, 1) := by decide +kernel
theorem dX7_untell_36 : decode cX7_untell 36 = .ok (.aload_n 2, 1) := by decide +kernel
theorem dX7_untell_37 : decode cX7_untell 37 = .ok (.invokevirtual 171, 3) := by decide +kernel
theorem dX7_untell_40 : decode cX7_untell 40 = .ok (.iload_n 3, 1) := by decide +kernel
theorem dX7_untell_41 : decode cX7_untell 41 = .ok (.ireturn, 1) := by decide +kernel
theorem dX7_hours_0 : decode cX7_hours 0 = .ok (.iload_n 1, 1) := by decide +kernel
theorem dX7_hours_1 : decode cX7_hours 1 = .ok (.iconst 1, 1) := by decide +kernel
theorem dX7_hours_2 : decode cX7_hours 2 = .ok (.bipush 48, 2) := by decide +kernel
theorem dX7_hours_4 : decode cX7_hours 4 = .ok (.invokestatic 69, 3) := by decide +kernel
theorem dX7_hours_7 : decode cX7_hours 7 = .ok (.ifCond .ne 9, 3) := by decide +kernel
theorem dX7_hours_10 : decode cX7_hours 10 = .ok (.aload_n 0, 1) := by decide +kernel
theorem dX7_hours_11 : decode cX7_hours 11 = .ok (.iconst 1, 1) := by decide +kernel
theorem dX7_hours_12 : decode cX7_hours 12 = .ok (.invokevirtual 62, 3) := by decide +kernel
theorem dX7_hours_15 : decode cX7_hours 15 = .ok (.ireturn, 1) := by decide +kernel
theorem dX7_hours_16 : decode cX7_hours 16 = .ok (.aload_n 0, 1) := by decide +kernel
theorem dX7_hours_17 : decode cX7_hours 17 = .ok (.getfield 12, 3) := by decide +kernel
theorem dX7_hours_20 : decode cX7_hours 20 = .ok (.getfield 126, 3) := by decide +kernel
theorem dX7_hours_23 : decode cX7_hours 23 = .ok (.iload_n 1, 1) := by decide +kernel
theorem dX7_hours_24 : decode cX7_hours 24 = .ok (.iadd, 1) := by decide +kernel
theorem dX7_hours_25 : decode cX7_hours 25 = .ok (.sipush 9999, 3) := by decide +kernel
theorem dX7_hours_28 : decode cX7_hours 28 = .ok (.if_icmp .le 9, 3) := by decide +kernel
theorem dX7_hours_31 : decode cX7_hours 31 = .ok (.aload_n 0, 1) := by decide +kernel
theorem dX7_hours_32 : decode cX7_hours 32 = .ok (.iconst 3, 1) := by decide +kernel
theorem dX7_hours_33 : decode cX7_hours 33 = .ok (.invokevirtual 62, 3) := by decide +kernel
theorem dX7_hours_36 : decode cX7_hours 36 = .ok (.ireturn, 1) := by decide +kernel
theorem dX7_hours_37 : decode cX7_hours 37 = .ok (.iconst 0, 1) := by decide +kernel
theorem dX7_hours_38 : decode cX7_hours 38 = .ok (.istore_n 2, 1) := by decide +kernel
theorem dX7_hours_39 : decode cX7_hours 39 = .ok (.iload_n 2, 1) := by decide +kernel
theorem dX7_hours_40 : decode cX7_hours 40 = .ok (.iload_n 1, 1) := by decide +kernel
theorem dX7_hours_41 : decode cX7_hours 41 = .ok (.if_icmp .ge 16, 3) := by decide +kernel
theorem dX7_hours_44 : decode cX7_hours 44 = .ok (.aload_n 0, 1) := by decide +kernel
theorem dX7_hours_45 : decode cX7_hours 45 = .ok (.getfield 12, 3) := by decide +kernel
theorem dX7_hours_48 : decode cX7_hours 48 = .ok (.invokevirtual 174, 3) := by decide +kernel
theorem dX7_hours_51 : decode cX7_hours 51 = .ok (.iinc 2 1, 3) := by decide +kernel
theorem dX7_hours_54 : decode cX7_hours 54 = .ok (.goto (-15), 3) := by decide +kernel
theorem dX7_hours_57 : decode cX7_hours 57 = .ok (.aload_n 0, 1) := by decide +kernel
theorem dX7_hours_58 : decode cX7_hours 58 = .ok (.getfield 12, 3) := by decide +kernel
theorem dX7_hours_61 : decode cX7_hours 61 = .ok (.iconst 2, 1) := by decide +kernel
theorem dX7_hours_62 : decode cX7_hours 62 = .ok (.invokevirtual 177, 3) := by decide +kernel
theorem dX7_hours_65 : decode cX7_hours 65 = .ok (.ireturn, 1) := by decide +kernel
theorem dX7_draws_0 : decode cX7_draws 0 = .ok (.iload_n 1, 1) := by decide +kernel
theorem dX7_draws_1 : decode cX7_draws 1 = .ok (.iconst 1, 1) := by decide +kernel
theorem dX7_draws_2 : decode cX7_draws 2 = .ok (.bipush 48, 2) := by decide +kernel
theorem dX7_draws_4 : decode cX7_draws 4 = .ok (.invokestatic 69, 3) := by decide +kernel
theorem dX7_draws_7 : decode cX7_draws 7 = .ok (.ifCond .ne 9, 3) := by decide +kernel
theorem dX7_draws_10 : decode cX7_draws 10 = .ok (.aload_n 0, 1) := by decide +kernel
theorem dX7_draws_11 : decode cX7_draws 11 = .ok (.iconst 1, 1) := by decide +kernel
theorem dX7_draws_12 : decode cX7_draws 12 = .ok (.invokevirtual 62, 3) := by decide +kernel
theorem dX7_draws_15 : decode cX7_draws 15 = .ok (.ireturn, 1) := by decide +kernel
theorem dX7_draws_16 : decode cX7_draws 16 = .ok (.aload_n 0, 1) := by decide +kernel
theorem dX7_draws_17 : decode cX7_draws 17 = .ok (.getfield 12, 3) := by decide +kernel
theorem dX7_draws_20 : decode cX7_draws 20 = .ok (.getfield 76, 3) := by decide +kernel
theorem dX7_draws_23 : decode cX7_draws 23 = .ok (.ifCond .eq 18, 3) := by decide +kernel
theorem dX7_draws_26 : decode cX7_draws 26 = .ok (.aload_n 0, 1) := by decide +kernel
theorem dX7_draws_27 : decode cX7_draws 27 = .ok (.getfield 12, 3) := by decide +kernel
theorem dX7_draws_30 : decode cX7_draws 30 = .ok (.getfield 126, 3) := by decide +kernel
theorem dX7_draws_33 : decode cX7_draws 33 = .ok (.iload_n 1, 1) := by decide +kernel
theorem dX7_draws_34 : decode cX7_draws 34 = .ok (.iadd, 1) := by decide +kernel
theorem dX7_draws_35 : decode cX7_draws 35 = .ok (.sipush 9999, 3) := by decide +kernel
theorem dX7_draws_38 : decode cX7_draws 38 = .ok (.if_icmp .le 9, 3) := by decide +kernel
theorem dX7_draws_41 : decode cX7_draws 41 = .ok (.aload_n 0, 1) := by decide +kernel
theorem dX7_draws_42 : decode cX7_draws 42 = .ok (.iconst 3, 1) := by decide +kernel
theorem dX7_draws_43 : decode cX7_draws 43 = .ok (.invokevirtual 62, 3) := by decide +kernel
theorem dX7_draws_46 : decode cX7_draws 46 = .ok (.ireturn, 1) := by decide +kernel
theorem dX7_draws_47 : decode cX7_draws 47 = .ok (.iconst 0, 1) := by decide +kernel
theorem dX7_draws_48 : decode cX7_draws 48 = .ok (.istore_n 2, 1) := by decide +kernel
theorem dX7_draws_49 : decode cX7_draws 49 = .ok (.iconst 0, 1) := by decide +kernel
theorem dX7_draws_50 : decode cX7_draws 50 = .ok (.istore_n 3, 1) := by decide +kernel
theorem dX7_draws_51 : decode cX7_draws 51 = .ok (.iload_n 3, 1) := by decide +kernel
theorem dX7_draws_52 : decode cX7_draws 52 = .ok (.iload_n 1, 1) := by decide +kernel
theorem dX7_draws_53 : decode cX7_draws 53 = .ok (.if_icmp .ge 29, 3) := by decide +kernel
theorem dX7_draws_56 : decode cX7_draws 56 = .ok (.aload_n 0, 1) := by decide +kernel
theorem dX7_draws_57 : decode cX7_draws 57 = .ok (.getfield 12, 3) := by decide +kernel
theorem dX7_draws_60 : decode cX7_draws 60 = .ok (.invokevirtual 180, 3) := by decide +kernel
theorem dX7_draws_63 : decode cX7_draws 63 = .ok (.ifCond .eq 6, 3) := by decide +kernel
theorem dX7_draws_66 : decode cX7_draws 66 = .ok (.iinc 2 1, 3) := by decide +kernel
theorem dX7_draws_69 : decode cX7_draws 69 = .ok (.aload_n 0, 1) := by decide +kernel
theorem dX7_draws_70 : decode cX7_draws 70 = .ok (.getfield 12, 3) := by decide +kernel
theorem dX7_draws_73 : decode cX7_draws 73 = .ok (.invokevirtual 174, 3) := by decide +kernel
theorem dX7_draws_76 : decode cX7_draws 76 = .ok (.iinc 3 1, 3) := by decide +kernel
theorem dX7_draws_79 : decode cX7_draws 79 = .ok (.goto (-28), 3) := by decide +kernel
theorem dX7_draws_82 : decode cX7_draws 82 = .ok (.iload_n 2, 1) := by decide +kernel
theorem dX7_draws_83 : decode cX7_draws 83 = .ok (.ireturn, 1) := by decide +kernel
theorem dX7_seed_0 : decode cX7_seed 0 = .ok (.aload_n 0, 1) := by decide +kernel
theorem dX7_seed_1 : decode cX7_seed 1 = .ok (.getfield 12, 3) := by decide +kernel
theorem dX7_seed_4 : decode cX7_seed 4 = .ok (.getfield 183, 3) := by decide +kernel
theorem dX7_seed_7 : decode cX7_seed 7 = .ok (.istore_n 2, 1) := by decide +kernel
theorem dX7_seed_8 : decode cX7_seed 8 = .ok (.aload_n 0, 1) := by decide +kernel
theorem dX7_seed_9 : decode cX7_seed 9 = .ok (.getfield 12, 3) := by decide +kernel
theorem dX7_seed_12 : decode cX7_seed 12 = .ok (.iload_n 1, 1) := by decide +kernel
theorem dX7_seed_13 : decode cX7_seed 13 = .ok (.putfield 183, 3) := by decide +kernel
theorem dX7_seed_16 : decode cX7_seed 16 = .ok (.iload_n 2, 1) := by decide +kernel
theorem dX7_seed_17 : decode cX7_seed 17 = .ok (.ireturn, 1) := by decide +kernel
theorem dX7_then_0 : decode cX7_then 0 = .ok (.iload_n 1, 1) := by decide +kernel
theorem dX7_then_1 : decode cX7_then 1 = .ok (.iconst 0, 1) := by decide +kernel
theorem dX7_then_2 : decode cX7_then 2 = .ok (.bipush 48, 2) := by decide +kernel
theorem dX7_then_4 : decode cX7_then 4 = .ok (.invokestatic 69, 3) := by decide +kernel
theorem dX7_then_7 : decode cX7_then 7 = .ok (.ifCond .eq 19, 3) := by decide +kernel
theorem dX7_then_10 : decode cX7_then 10 = .ok (.aload_n 0, 1) := by decide +kernel
theorem dX7_then_11 : decode cX7_then 11 = .ok (.iload_n 2, 1) := by decide +kernel
theorem dX7_then_12 : decode cX7_then 12 = .ok (.invokevirtual 84, 3) := by decide +kernel
theorem dX7_then_15 : decode cX7_then 15 = .ok (.ifCond .eq 11, 3) := by decide +kernel
theorem dX7_then_18 : decode cX7_then 18 = .ok (.iload_n 3, 1) := by decide +kernel
theorem dX7_then_19 : decode cX7_then 19 = .ok (.iconst 5, 1) := by decide +kernel
theorem dX7_then_20 : decode cX7_then 20 = .ok (.invokestatic 58, 3) := by decide +kernel
theorem dX7_then_23 : decode cX7_then 23 = .ok (.ifCond .ne 9, 3) := by decide +kernel
theorem dX7_then_26 : decode cX7_then 26 = .ok (.aload_n 0, 1) := by decide +kernel
theorem dX7_then_27 : decode cX7_then 27 = .ok (.iconst 1, 1) := by decide +kernel
theorem dX7_then_28 : decode cX7_then 28 = .ok (.invokevirtual 62, 3) := by decide +kernel
theorem dX7_then_31 : decode cX7_then 31 = .ok (.ireturn, 1) := by decide +kernel
theorem dX7_then_32 : decode cX7_then 32 = .ok (.aload_n 0, 1) := by decide +kernel
theorem dX7_then_33 : decode cX7_then 33 = .ok (.getfield 12, 3) := by decide +kernel
theorem dX7_then_36 : decode cX7_then 36 = .ok (.getfield 88, 3) := by decide +kernel
theorem dX7_then_39 : decode cX7_then 39 = .ok (.iload_n 2, 1) := by decide +kernel
theorem dX7_then_40 : decode cX7_then 40 = .ok (.iaload, 1) := by decide +kernel
theorem dX7_then_41 : decode cX7_then 41 = .ok (.istore 4, 2) := by decide +kernel
theorem dX7_then_43 : decode cX7_then 43 = .ok (.iconst 0, 1) := by decide +kernel
theorem dX7_then_44 : decode cX7_then 44 = .ok (.istore 5, 2) := by decide +kernel
theorem dX7_then_46 : decode cX7_then 46 = .ok (.iload 5, 2) := by decide +kernel
theorem dX7_then_48 : decode cX7_then 48 = .ok (.iload_n 1, 1) := by decide +kernel
theorem dX7_then_49 : decode cX7_then 49 = .ok (.if_icmp .ge 31, 3) := by decide +kernel
theorem dX7_then_52 : decode cX7_then 52 = .ok (.aload_n 0, 1) := by decide +kernel
theorem dX7_then_53 : decode cX7_then 53 = .ok (.getfield 12, 3) := by decide +kernel
theorem dX7_then_56 : decode cX7_then 56 = .ok (.iload_n 2, 1) := by decide +kernel
theorem dX7_then_57 : decode cX7_then 57 = .ok (.iload 4, 2) := by decide +kernel
theorem dX7_then_59 : decode cX7_then 59 = .ok (.aload_n 0, 1) := by decide +kernel
theorem dX7_then_60 : decode cX7_then 60 = .ok (.getfield 12, 3) := by decide +kernel
theorem dX7_then_63 : decode cX7_then 63 = .ok (.getfield 126, 3) := by decide +kernel
theorem dX7_then_66 : decode cX7_then 66 = .ok (.iload 5, 2) := by decide +kernel
theorem dX7_then_68 : decode cX7_then 68 = .ok (.iadd, 1) := by decide +kernel
theorem dX7_then_69 : decode cX7_then 69 = .ok (.invokevirtual 186, 3) := by decide +kernel
theorem dX7_then_72 : decode cX7_then 72 = .ok (.istore 4, 2) := by decide +kernel
theorem dX7_then_74 : decode cX7_then 74 = .ok (.iinc 5 1, 3) := by decide +kernel
theorem dX7_then_77 : decode cX7_then 77 = .ok (.goto (-31), 3) := by decide +kernel
theorem dX7_then_80 : decode cX7_then 80 = .ok (.aload_n 0, 1) := by decide +kernel
theorem dX7_then_81 : decode cX7_then 81 = .ok (.getfield 12, 3) := by decide +kernel
theorem dX7_then_84 : decode cX7_then 84 = .ok (.iload_n 2, 1) := by decide +kernel
theorem dX7_then_85 : decode cX7_then 85 = .ok (.iload 4, 2) := by decide +kernel
theorem dX7_then_87 : decode cX7_then 87 = .ok (.iload_n 3, 1) := by decide +kernel
theorem dX7_then_88 : decode cX7_then 88 = .ok (.invokevirtual 91, 3) := by decide +kernel
theorem dX7_then_91 : decode cX7_then 91 = .ok (.ireturn, 1) := by decide +kernel
theorem dX7_home_0 : decode cX7_home 0 = .ok (.aload_n 0, 1) := by decide +kernel
theorem dX7_home_1 : decode cX7_home 1 = .ok (.iload_n 1, 1) := by decide +kernel
theorem dX7_home_2 : decode cX7_home 2 = .ok (.invokevirtual 84, 3) := by decide +kernel
theorem dX7_home_5 : decode cX7_home 5 = .ok (.ifCond .eq 13, 3) := by decide +kernel
theorem dX7_home_8 : decode cX7_home 8 = .ok (.iload_n 2, 1) := by decide +kernel
theorem dX7_home_9 : decode cX7_home 9 = .ok (.iconst 0, 1) := by decide +kernel
theorem dX7_home_10 : decode cX7_home 10 = .ok (.bipush 48, 2) := by decide +kernel
theorem dX7_home_12 : decode cX7_home 12 = .ok (.invokestatic 69, 3) := by decide +kernel
theorem dX7_home_15 : decode cX7_home 15 = .ok (.ifCond .ne 9, 3) := by decide +kernel
theorem dX7_home_18 : decode cX7_home 18 = .ok (.aload_n 0, 1) := by decide +kernel
theorem dX7_home_19 : decode cX7_home 19 = .ok (.iconst 1, 1) := by decide +kernel
theorem dX7_home_20 : decode cX7_home 20 = .ok (.invokevirtual 62, 3) := by decide +kernel
theorem dX7_home_23 : decode cX7_home 23 = .ok (.ireturn, 1) := by decide +kernel
theorem dX7_home_24 : decode cX7_home 24 = .ok (.aload_n 0, 1) := by decide +kernel
theorem dX7_home_25 : decode cX7_home 25 = .ok (.getfield 12, 3) := by decide +kernel
theorem dX7_home_28 : decode cX7_home 28 = .ok (.getfield 88, 3) := by decide +kernel
theorem dX7_home_31 : decode cX7_home 31 = .ok (.iload_n 1, 1) := by decide +kernel
theorem dX7_home_32 : decode cX7_home 32 = .ok (.iaload, 1) := by decide +kernel
theorem dX7_home_33 : decode cX7_home 33 = .ok (.istore_n 3, 1) := by decide +kernel
theorem dX7_home_34 : decode cX7_home 34 = .ok (.iconst 0, 1) := by decide +kernel
theorem dX7_home_35 : decode cX7_home 35 = .ok (.istore 4, 2) := by decide +kernel
theorem dX7_home_37 : decode cX7_home 37 = .ok (.iload 4, 2) := by decide +kernel
theorem dX7_home_39 : decode cX7_home 39 = .ok (.iload_n 2, 1) := by decide +kernel
theorem dX7_home_40 : decode cX7_home 40 = .ok (.if_icmp .ge 50, 3) := by decide +kernel
theorem dX7_home_43 : decode cX7_home 43 = .ok (.iload_n 3, 1) := by decide +kernel
theorem dX7_home_44 : decode cX7_home 44 = .ok (.invokestatic 189, 3) := by decide +kernel
theorem dX7_home_47 : decode cX7_home 47 = .ok (.iconst 2, 1) := by decide +kernel
theorem dX7_home_48 : decode cX7_home 48 = .ok (.if_icmp .eq 42, 3) := by decide +kernel
theorem dX7_home_51 : decode cX7_home 51 = .ok (.aload_n 0, 1) := by decide +kernel
theorem dX7_home_52 : decode cX7_home 52 = .ok (.getfield 12, 3) := by decide +kernel
theorem dX7_home_55 : decode cX7_home 55 = .ok (.iload_n 1, 1) := by decide +kernel
theorem dX7_home_56 : decode cX7_home 56 = .ok (.iload_n 3, 1) := by decide +kernel
theorem dX7_home_57 : decode cX7_home 57 = .ok (.aload_n 0, 1) := by decide +kernel
theorem dX7_home_58 : decode cX7_home 58 = .ok (.getfield 12, 3) := by decide +kernel
theorem dX7_home_61 : decode cX7_home 61 = .ok (.getfield 126, 3) := by decide +kernel
theorem dX7_home_64 : decode cX7_home 64 = .ok (.iload 4, 2) := by decide +kernel
theorem dX7_home_66 : decode cX7_home 66 = .ok (.iadd, 1) := by decide +kernel
theorem dX7_home_67 : decode cX7_home 67 = .ok (.invokevirtual 186, 3) := by decide +kernel
theorem dX7_home_70 : decode cX7_home 70 = .ok (.istore_n 3, 1) := by decide +kernel
theorem dX7_home_71 : decode cX7_home 71 = .ok (.iload_n 3, 1) := by decide +kernel
theorem dX7_home_72 : decode cX7_home 72 = .ok (.invokestatic 189, 3) := by decide +kernel
theorem dX7_home_75 : decode cX7_home 75 = .ok (.iconst 2, 1) := by decide +kernel
theorem dX7_home_76 : decode cX7_home 76 = .ok (.if_icmp .ne 8, 3) := by decide +kernel
theorem dX7_home_79 : decode cX7_home 79 = .ok (.iload 4, 2) := by decide +kernel
theorem dX7_home_81 : decode cX7_home 81 = .ok (.iconst 1, 1) := by decide +kernel
theorem dX7_home_82 : decode cX7_home 82 = .ok (.iadd, 1) := by decide +kernel
theorem dX7_home_83 : decode cX7_home 83 = .ok (.ireturn, 1) := by decide +kernel
theorem dX7_home_84 : decode cX7_home 84 = .ok (.iinc 4 1, 3) := by decide +kernel
theorem dX7_home_87 : decode cX7_home 87 = .ok (.goto (-50), 3) := by decide +kernel
theorem dX7_home_90 : decode cX7_home 90 = .ok (.iload_n 3, 1) := by decide +kernel
theorem dX7_home_91 : decode cX7_home 91 = .ok (.invokestatic 189, 3) := by decide +kernel
theorem dX7_home_94 : decode cX7_home 94 = .ok (.iconst 2, 1) := by decide +kernel
theorem dX7_home_95 : decode cX7_home 95 = .ok (.if_icmp .ne 7, 3) := by decide +kernel
theorem dX7_home_98 : decode cX7_home 98 = .ok (.iconst 0, 1) := by decide +kernel
theorem dX7_home_99 : decode cX7_home 99 = .ok (.goto 8, 3) := by decide +kernel
theorem dX7_home_102 : decode cX7_home 102 = .ok (.aload_n 0, 1) := by decide +kernel
theorem dX7_home_103 : decode cX7_home 103 = .ok (.iconst 2, 1) := by decide +kernel
theorem dX7_home_104 : decode cX7_home 104 = .ok (.invokevirtual 62, 3) := by decide +kernel
theorem dX7_home_107 : decode cX7_home 107 = .ok (.ireturn, 1) := by decide +kernel
theorem dX7_soonest_0 : decode cX7_soonest 0 = .ok (.aload_n 0, 1) := by decide +kernel
theorem dX7_soonest_1 : decode cX7_soonest 1 = .ok (.iload_n 1, 1) := by decide +kernel
theorem dX7_soonest_2 : decode cX7_soonest 2 = .ok (.invokevirtual 84, 3) := by decide +kernel
theorem dX7_soonest_5 : decode cX7_soonest 5 = .ok (.ifCond .eq 21, 3) := by decide +kernel
theorem dX7_soonest_8 : decode cX7_soonest 8 = .ok (.iload_n 2, 1) := by decide +kernel
theorem dX7_soonest_9 : decode cX7_soonest 9 = .ok (.iconst 1, 1) := by decide +kernel
theorem dX7_soonest_10 : decode cX7_soonest 10 = .ok (.bipush 10, 2) := by decide +kernel
theorem dX7_soonest_12 : decode cX7_soonest 12 = .ok (.invokestatic 69, 3) := by decide +kernel
theorem dX7_soonest_15 : decode cX7_soonest 15 = .ok (.ifCond .eq 11, 3) := by decide +kernel
theorem dX7_soonest_18 : decode cX7_soonest 18 = .ok (.iload_n 3, 1) := by decide +kernel
theorem dX7_soonest_19 : decode cX7_soonest 19 = .ok (.iconst 3, 1) := by decide +kernel
theorem dX7_soonest_20 : decode cX7_soonest 20 = .ok (.invokestatic 58, 3) := by decide +kernel
theorem dX7_soonest_23 : decode cX7_soonest 23 = .ok (.ifCond .ne 9, 3) := by decide +kernel
theorem dX7_soonest_26 : decode cX7_soonest 26 = .ok (.aload_n 0, 1) := by decide +kernel
theorem dX7_soonest_27 : decode cX7_soonest 27 = .ok (.iconst 1, 1) := by decide +kernel
theorem dX7_soonest_28 : decode cX7_soonest 28 = .ok (.invokevirtual 62, 3) := by decide +kernel
theorem dX7_soonest_31 : decode cX7_soonest 31 = .ok (.ireturn, 1) := by decide +kernel
theorem dX7_soonest_32 : decode cX7_soonest 32 = .ok (.aload_n 0, 1) := by decide +kernel
theorem dX7_soonest_33 : decode cX7_soonest 33 = .ok (.getfield 36, 3) := by decide +kernel
theorem dX7_soonest_36 : decode cX7_soonest 36 = .ok (.aload_n 0, 1) := by decide +kernel
theorem dX7_soonest_37 : decode cX7_soonest 37 = .ok (.getfield 12, 3) := by decide +kernel
theorem dX7_soonest_40 : decode cX7_soonest 40 = .ok (.iload_n 1, 1) := by decide +kernel
theorem dX7_soonest_41 : decode cX7_soonest 41 = .ok (.iload_n 2, 1) := by decide +kernel
theorem dX7_soonest_42 : decode cX7_soonest 42 = .ok (.invokevirtual 192, 3) := by decide +kernel
theorem dX7_soonest_45 : decode cX7_soonest 45 = .ok (.aload_n 0, 1) := by decide +kernel
theorem dX7_soonest_46 : decode cX7_soonest 46 = .ok (.getfield 36, 3) := by decide +kernel
theorem dX7_soonest_49 : decode cX7_soonest 49 = .ok (.getfield 196, 3) := by decide +kernel
theorem dX7_soonest_52 : decode cX7_soonest 52 = .ok (.iload_n 2, 1) := by decide +kernel
theorem dX7_soonest_53 : decode cX7_soonest 53 = .ok (.if_icmp .le 9, 3) := by decide +kernel
theorem dX7_soonest_56 : decode cX7_soonest 56 = .ok (.aload_n 0, 1) := by decide +kernel
theorem dX7_soonest_57 : decode cX7_soonest 57 = .ok (.iconst 2, 1) := by decide +kernel
theorem dX7_soonest_58 : decode cX7_soonest 58 = .ok (.invokevirtual 62, 3) := by decide +kernel
theorem dX7_soonest_61 : decode cX7_soonest 61 = .ok (.ireturn, 1) := by decide +kernel
theorem dX7_soonest_62 : decode cX7_soonest 62 = .ok (.iload_n 3, 1) := by decide +kernel
theorem dX7_soonest_63 : decode cX7_soonest 63 = .ok (.ifCond .ne 11, 3) := by decide +kernel
theorem dX7_soonest_66 : decode cX7_soonest 66 = .ok (.aload_n 0, 1) := by decide +kernel
theorem dX7_soonest_67 : decode cX7_soonest 67 = .ok (.getfield 36, 3) := by decide +kernel
theorem dX7_soonest_70 : decode cX7_soonest 70 = .ok (.getfield 196, 3) := by decide +kernel
theorem dX7_soonest_73 : decode cX7_soonest 73 = .ok (.ireturn, 1) := by decide +kernel
theorem dX7_soonest_74 : decode cX7_soonest 74 = .ok (.iload_n 3, 1) := by decide +kernel
theorem dX7_soonest_75 : decode cX7_soonest 75 = .ok (.iconst 1, 1) := by decide +kernel
theorem dX7_soonest_76 : decode cX7_soonest 76 = .ok (.if_icmp .ne 13, 3) := by decide +kernel
theorem dX7_soonest_79 : decode cX7_soonest 79 = .ok (.aload_n 0, 1) := by decide +kernel
theorem dX7_soonest_80 : decode cX7_soonest 80 = .ok (.getfield 36, 3) := by decide +kernel
theorem dX7_soonest_83 : decode cX7_soonest 83 = .ok (.getfield 199, 3) := by decide +kernel
theorem dX7_soonest_86 : decode cX7_soonest 86 = .ok (.goto 10, 3) := by decide +kernel
theorem dX7_soonest_89 : decode cX7_soonest 89 = .ok (.aload_n 0, 1) := by decide +kernel
theorem dX7_soonest_90 : decode cX7_soonest 90 = .ok (.getfield 36, 3) := by decide +kernel
theorem dX7_soonest_93 : decode cX7_soonest 93 = .ok (.getfield 202, 3) := by decide +kernel
theorem dX7_soonest_96 : decode cX7_soonest 96 = .ok (.ireturn, 1) := by decide +kernel
theorem dX7_bestKnot_0 : decode cX7_bestKnot 0 = .ok (.iload_n 1, 1) := by decide +kernel
theorem dX7_bestKnot_1 : decode cX7_bestKnot 1 = .ok (.iconst 1, 1) := by decide +kernel
theorem dX7_bestKnot_2 : decode cX7_bestKnot 2 = .ok (.bipush 24, 2) := by decide +kernel
theorem dX7_bestKnot_4 : decode cX7_bestKnot 4 = .ok (.invokestatic 69, 3) := by decide +kernel
theorem dX7_bestKnot_7 : decode cX7_bestKnot 7 = .ok (.ifCond .eq 11, 3) := by decide +kernel
theorem dX7_bestKnot_10 : decode cX7_bestKnot 10 = .ok (.iload_n 2, 1) := by decide +kernel
theorem dX7_bestKnot_11 : decode cX7_bestKnot 11 = .ok (.iconst 2, 1) := by decide +kernel
theorem dX7_bestKnot_12 : decode cX7_bestKnot 12 = .ok (.invokestatic 58, 3) := by decide +kernel
theorem dX7_bestKnot_15 : decode cX7_bestKnot 15 = .ok (.ifCond .ne 9, 3) := by decide +kernel
theorem dX7_bestKnot_18 : decode cX7_bestKnot 18 = .ok (.aload_n 0, 1) := by decide +kernel
theorem dX7_bestKnot_19 : decode cX7_bestKnot 19 = .ok (.iconst 1, 1) := by decide +kernel
theorem dX7_bestKnot_20 : decode cX7_bestKnot 20 = .ok (.invokevirtual 62, 3) := by decide +kernel
theorem dX7_bestKnot_23 : decode cX7_bestKnot 23 = .ok (.ireturn, 1) := by decide +kernel
theorem dX7_bestKnot_24 : decode cX7_bestKnot 24 = .ok (.aload_n 0, 1) := by decide +kernel
theorem dX7_bestKnot_25 : decode cX7_bestKnot 25 = .ok (.getfield 29, 3) := by decide +kernel
theorem dX7_bestKnot_28 : decode cX7_bestKnot 28 = .ok (.aload_n 0, 1) := by decide +kernel
theorem dX7_bestKnot_29 : decode cX7_bestKnot 29 = .ok (.getfield 12, 3) := by decide +kernel
theorem dX7_bestKnot_32 : decode cX7_bestKnot 32 = .ok (.iload_n 1, 1) := by decide +kernel
theorem dX7_bestKnot_33 : decode cX7_bestKnot 33 = .ok (.invokevirtual 205, 3) := by decide +kernel
theorem dX7_bestKnot_36 : decode cX7_bestKnot 36 = .ok (.aload_n 0, 1) := by decide +kernel
theorem dX7_bestKnot_37 : decode cX7_bestKnot 37 = .ok (.getfield 29, 3) := by decide +kernel
theorem dX7_bestKnot_40 : decode cX7_bestKnot 40 = .ok (.getfield 209, 3) := by decide +kernel
theorem dX7_bestKnot_43 : decode cX7_bestKnot 43 = .ok (.ifCond .ge 9, 3) := by decide +kernel
theorem dX7_bestKnot_46 : decode cX7_bestKnot 46 = .ok (.aload_n 0, 1) := by decide +kernel
theorem dX7_bestKnot_47 : decode cX7_bestKnot 47 = .ok (.iconst 2, 1) := by decide +kernel
theorem dX7_bestKnot_48 : decode cX7_bestKnot 48 = .ok (.invokevirtual 62, 3) := by decide +kernel
theorem dX7_bestKnot_51 : decode cX7_bestKnot 51 = .ok (.ireturn, 1) := by decide +kernel
theorem dX7_bestKnot_52 : decode cX7_bestKnot 52 = .ok (.iload_n 2, 1) := by decide +kernel
theorem dX7_bestKnot_53 : decode cX7_bestKnot 53 = .ok (.ifCond .ne 16, 3) := by decide +kernel
theorem dX7_bestKnot_56 : decode cX7_bestKnot 56 = .ok (.aload_n 0, 1) := by decide +kernel
theorem dX7_bestKnot_57 : decode cX7_bestKnot 57 = .ok (.getfield 29, 3) := by decide +kernel
theorem dX7_bestKnot_60 : decode cX7_bestKnot 60 = .ok (.getfield 209, 3) := by decide +kernel
theorem dX7_bestKnot_63 : decode cX7_bestKnot 63 = .ok (.invokestatic 212, 3) := by decide +kernel
theorem dX7_bestKnot_66 : decode cX7_bestKnot 66 = .ok (.goto 10, 3) := by decide +kernel
theorem dX7_bestKnot_69 : decode cX7_bestKnot 69 = .ok (.aload_n 0, 1) := by decide +kernel
theorem dX7_bestKnot_70 : decode cX7_bestKnot 70 = .ok (.getfield 29, 3) := by decide +kernel
theorem dX7_bestKnot_73 : decode cX7_bestKnot 73 = .ok (.getfield 215, 3) := by decide +kernel
theorem dX7_bestKnot_76 : decode cX7_bestKnot 76 = .ok (.ireturn, 1) := by decide +kernel
theorem dX7_who_0 : decode cX7_who 0 = .ok (.iload_n 1, 1) := by decide +kernel
theorem dX7_who_1 : decode cX7_who 1 = .ok (.iconst 4, 1) := by decide +kernel
theorem dX7_who_2 : decode cX7_who 2 = .ok (.invokestatic 58, 3) := by decide +kernel
theorem dX7_who_5 : decode cX7_who 5 = .ok (.ifCond .eq 21, 3) := by decide +kernel
theorem dX7_who_8 : decode cX7_who 8 = .ok (.iload_n 2, 1) := by decide +kernel
theorem dX7_who_9 : decode cX7_who 9 = .ok (.iconst 1, 1) := by decide +kernel
theorem dX7_who_10 : decode cX7_who 10 = .ok (.bipush 24, 2) := by decide +kernel
theorem dX7_who_12 : decode cX7_who 12 = .ok (.invokestatic 69, 3) := by decide +kernel
theorem dX7_who_15 : decode cX7_who 15 = .ok (.ifCond .eq 11, 3) := by decide +kernel
theorem dX7_who_18 : decode cX7_who 18 = .ok (.iload_n 3, 1) := by decide +kernel
theorem dX7_who_19 : decode cX7_who 19 = .ok (.iconst 3, 1) := by decide +kernel
theorem dX7_who_20 : decode cX7_who 20 = .ok (.invokestatic 58, 3) := by decide +kernel
theorem dX7_who_23 : decode cX7_who 23 = .ok (.ifCond .ne 9, 3) := by decide +kernel
theorem dX7_who_26 : decode cX7_who 26 = .ok (.aload_n 0, 1) := by decide +kernel
theorem dX7_who_27 : decode cX7_who 27 = .ok (.iconst 1, 1) := by decide +kernel
theorem dX7_who_28 : decode cX7_who 28 = .ok (.invokevirtual 62, 3) := by decide +kernel
theorem dX7_who_31 : decode cX7_who 31 = .ok (.ireturn, 1) := by decide +kernel
theorem dX7_who_32 : decode cX7_who 32 = .ok (.aload_n 0, 1) := by decide +kernel
theorem dX7_who_33 : decode cX7_who 33 = .ok (.getfield 49, 3) := by decide +kernel
theorem dX7_who_36 : decode cX7_who 36 = .ok (.iload_n 1, 1) := by decide +kernel
theorem dX7_who_37 : decode cX7_who 37 = .ok (.aaload, 1) := by decide +kernel
theorem dX7_who_38 : decode cX7_who 38 = .ok (.astore 4, 2) := by decide +kernel
theorem dX7_who_40 : decode cX7_who 40 = .ok (.aload_n 0, 1) := by decide +kernel
theorem dX7_who_41 : decode cX7_who 41 = .ok (.getfield 218, 3) := by decide +kernel
theorem dX7_who_44 : decode cX7_who 44 = .ok (.ifCond .eq 26, 3) := by decide +kernel
theorem dX7_who_47 : decode cX7_who 47 = .ok (.aload 4, 2) := by decide +kernel
theorem dX7_who_49 : decode cX7_who 49 = .ok (.invokevirtual 221, 3) := by decide +kernel
theorem dX7_who_52 : decode cX7_who 52 = .ok (.ifCond .eq 18, 3) := by decide +kernel
theorem dX7_who_55 : decode cX7_who 55 = .ok (.aload 4, 2) := by decide +kernel
theorem dX7_who_57 : decode cX7_who 57 = .ok (.getfield 222, 3) := by decide +kernel
theorem dX7_who_60 : decode cX7_who 60 = .ok (.aload_n 0, 1) := by decide +kernel
theorem dX7_who_61 : decode cX7_who 61 = .ok (.getfield 16, 3) := by decide +kernel
theorem dX7_who_64 : decode cX7_who 64 = .ok (.getfield 76, 3) := by decide +kernel
theorem dX7_who_67 : decode cX7_who 67 = .ok (.if_icmp .ge 9, 3) := by decide +kernel
theorem dX7_who_70 : decode cX7_who 70 = .ok (.aload_n 0, 1) := by decide +kernel
theorem dX7_who_71 : decode cX7_who 71 = .ok (.iconst 2, 1) := by decide +kernel
theorem dX7_who_72 : decode cX7_who 72 = .ok (.invokevirtual 62, 3) := by decide +kernel
theorem dX7_who_75 : decode cX7_who 75 = .ok (.ireturn, 1) := by decide +kernel
theorem dX7_who_76 : decode cX7_who 76 = .ok (.aload_n 0, 1) := by decide +kernel
theorem dX7_who_77 : decode cX7_who 77 = .ok (.getfield 29, 3) := by decide +kernel
theorem dX7_who_80 : decode cX7_who 80 = .ok (.aload_n 0, 1) := by decide +kernel
theorem dX7_who_81 : decode cX7_who 81 = .ok (.getfield 16, 3) := by decide +kernel
theorem dX7_who_84 : decode cX7_who 84 = .ok (.aload 4, 2) := by decide +kernel
theorem dX7_who_86 : decode cX7_who 86 = .ok (.getfield 225, 3) := by decide +kernel
theorem dX7_who_89 : decode cX7_who 89 = .ok (.iload_n 2, 1) := by decide +kernel
theorem dX7_who_90 : decode cX7_who 90 = .ok (.invokevirtual 226, 3) := by decide +kernel
theorem dX7_who_93 : decode cX7_who 93 = .ok (.iload_n 3, 1) := by decide +kernel
theorem dX7_who_94 : decode cX7_who 94 = .ok (.ifCond .ne 11, 3) := by decide +kernel
theorem dX7_who_97 : decode cX7_who 97 = .ok (.aload_n 0, 1) := by decide +kernel
theorem dX7_who_98 : decode cX7_who 98 = .ok (.getfield 29, 3) := by decide +kernel
theorem dX7_who_101 : decode cX7_who 101 = .ok (.getfield 230, 3) := by decide +kernel
theorem dX7_who_104 : decode cX7_who 104 = .ok (.ireturn, 1) := by decide +kernel
theorem dX7_who_105 : decode cX7_who 105 = .ok (.iload_n 3, 1) := by decide +kernel
theorem dX7_who_106 : decode cX7_who 106 = .ok (.iconst 2, 1) := by decide +kernel
theorem dX7_who_107 : decode cX7_who 107 = .ok (.if_icmp .ne 11, 3) := by decide +kernel
theorem dX7_who_110 : decode cX7_who 110 = .ok (.aload_n 0, 1) := by decide +kernel
theorem dX7_who_111 : decode cX7_who 111 = .ok (.getfield 29, 3) := by decide +kernel
theorem dX7_who_114 : decode cX7_who 114 = .ok (.getfield 233, 3) := by decide +kernel
theorem dX7_who_117 : decode cX7_who 117 = .ok (.ireturn, 1) := by decide +kernel
theorem dX7_who_118 : decode cX7_who 118 = .ok (.aload_n 0, 1) := by decide +kernel
theorem dX7_who_119 : decode cX7_who 119 = .ok (.getfield 29, 3) := by decide +kernel
theorem dX7_who_122 : decode cX7_who 122 = .ok (.getfield 230, 3) := by decide +kernel
theorem dX7_who_125 : decode cX7_who 125 = .ok (.ifCond .ne 11, 3) := by decide +kernel
theorem dX7_who_128 : decode cX7_who 128 = .ok (.aload_n 0, 1) := by decide +kernel
theorem dX7_who_129 : decode cX7_who 129 = .ok (.iconst 2, 1) := by decide +kernel
theorem dX7_who_130 : decode cX7_who 130 = .ok (.invokevirtual 62, 3) := by decide +kernel
theorem dX7_who_133 : decode cX7_who 133 = .ok (.goto 13, 3) := by decide +kernel
theorem dX7_who_136 : decode cX7_who 136 = .ok (.aload_n 0, 1) := by decide +kernel
theorem dX7_who_137 : decode cX7_who 137 = .ok (.getfield 29, 3) := by decide +kernel
theorem dX7_who_140 : decode cX7_who 140 = .ok (.getfield 236, 3) := by decide +kernel
theorem dX7_who_143 : decode cX7_who 143 = .ok (.invokestatic 212, 3) := by decide +kernel
theorem dX7_who_146 : decode cX7_who 146 = .ok (.ireturn, 1) := by decide +kernel
theorem dX7_race_0 : decode cX7_race 0 = .ok (.aload_n 0, 1) := by decide +kernel
theorem dX7_race_1 : decode cX7_race 1 = .ok (.iload_n 1, 1) := by decide +kernel
theorem dX7_race_2 : decode cX7_race 2 = .ok (.invokevirtual 84, 3) := by decide +kernel
theorem dX7_race_5 : decode cX7_race 5 = .ok (.ifCond .eq 26, 3) := by decide +kernel
theorem dX7_race_8 : decode cX7_race 8 = .ok (.aload_n 0, 1) := by decide +kernel
theorem dX7_race_9 : decode cX7_race 9 = .ok (.iload_n 2, 1) := by decide +kernel
theorem dX7_race_10 : decode cX7_race 10 = .ok (.invokevirtual 84, 3) := by decide +kernel
theorem dX7_race_13 : decode cX7_race 13 = .ok (.ifCond .eq 18, 3) := by decide +kernel
theorem dX7_race_16 : decode cX7_race 16 = .ok (.iload_n 1, 1) := by decide +kernel
theorem dX7_race_17 : decode cX7_race 17 = .ok (.iload_n 2, 1) := by decide +kernel
theorem dX7_race_18 : decode cX7_race 18 = .ok (.if_icmp .eq 13, 3) := by decide +kernel
theorem dX7_race_21 : decode cX7_race 21 = .ok (.iload_n 3, 1) := by decide +kernel
theorem dX7_race_22 : decode cX7_race 22 = .ok (.iconst 1, 1) := by decide +kernel
theorem dX7_race_23 : decode cX7_race 23 = .ok (.bipush 10, 2) := by decide +kernel
theorem dX7_race_25 : decode cX7_race 25 = .ok (.invokestatic 69, 3) := by decide +kernel
theorem dX7_race_28 : decode cX7_race 28 = .ok (.ifCond .ne 9, 3) := by decide +kernel
theorem dX7_race_31 : decode cX7_race 31 = .ok (.aload_n 0, 1) := by decide +kernel
theorem dX7_race_32 : decode cX7_race 32 = .ok (.iconst 1, 1) := by decide +kernel
theorem dX7_race_33 : decode cX7_race 33 = .ok (.invokevirtual 62, 3) := by decide +kernel
theorem dX7_race_36 : decode cX7_race 36 = .ok (.ireturn, 1) := by decide +kernel
theorem dX7_race_37 : decode cX7_race 37 = .ok (.aload_n 0, 1) := by decide +kernel
theorem dX7_race_38 : decode cX7_race 38 = .ok (.getfield 36, 3) := by decide +kernel
theorem dX7_race_41 : decode cX7_race 41 = .ok (.aload_n 0, 1) := by decide +kernel
theorem dX7_race_42 : decode cX7_race 42 = .ok (.getfield 12, 3) := by decide +kernel
theorem dX7_race_45 : decode cX7_race 45 = .ok (.iload_n 1, 1) := by decide +kernel
theorem dX7_race_46 : decode cX7_race 46 = .ok (.iload_n 3, 1) := by decide +kernel
theorem dX7_race_47 : decode cX7_race 47 = .ok (.invokevirtual 192, 3) := by decide +kernel
theorem dX7_race_50 : decode cX7_race 50 = .ok (.aload_n 0, 1) := by decide +kernel
theorem dX7_race_51 : decode cX7_race 51 = .ok (.getfield 36, 3) := by decide +kernel
theorem dX7_race_54 : decode cX7_race 54 = .ok (.getfield 196, 3) := by decide +kernel
theorem dX7_race_57 : decode cX7_race 57 = .ok (.istore 4, 2) := by decide +kernel
theorem dX7_race_59 : decode cX7_race 59 = .ok (.aload_n 0, 1) := by decide +kernel
theorem dX7_race_60 : decode cX7_race 60 = .ok (.getfield 36, 3) := by decide +kernel
theorem dX7_race_63 : decode cX7_race 63 = .ok (.aload_n 0, 1) := by decide +kernel
theorem dX7_race_64 : decode cX7_race 64 = .ok (.getfield 12, 3) := by decide +kernel
theorem dX7_race_67 : decode cX7_race 67 = .ok (.iload_n 2, 1) := by decide +kernel
theorem dX7_race_68 : decode cX7_race 68 = .ok (.iload_n 3, 1) := by decide +kernel
theorem dX7_race_69 : decode cX7_race 69 = .ok (.invokevirtual 192, 3) := by decide +kernel
theorem dX7_race_72 : decode cX7_race 72 = .ok (.aload_n 0, 1) := by decide +kernel
theorem dX7_race_73 : decode cX7_race 73 = .ok (.getfield 36, 3) := by decide +kernel
theorem dX7_race_76 : decode cX7_race 76 = .ok (.getfield 196, 3) := by decide +kernel
theorem dX7_race_79 : decode cX7_race 79 = .ok (.iload 4, 2) := by decide +kernel
theorem dX7_race_81 : decode cX7_race 81 = .ok (.isub, 1) := by decide +kernel
theorem dX7_race_82 : decode cX7_race 82 = .ok (.ireturn, 1) := by decide +kernel
theorem dX7_voice_0 : decode cX7_voice 0 = .ok (.aload_n 0, 1) := by decide +kernel
theorem dX7_voice_1 : decode cX7_voice 1 = .ok (.iload_n 1, 1) := by decide +kernel
theorem dX7_voice_2 : decode cX7_voice 2 = .ok (.iload_n 2, 1) := by decide +kernel
theorem dX7_voice_3 : decode cX7_voice 3 = .ok (.invokevirtual 104, 3) := by decide +kernel
theorem dX7_voice_6 : decode cX7_voice 6 = .ok (.ifCond .eq 11, 3) := by decide +kernel
theorem dX7_voice_9 : decode cX7_voice 9 = .ok (.iload_n 3, 1) := by decide +kernel
theorem dX7_voice_10 : decode cX7_voice 10 = .ok (.iconst 4, 1) := by decide +kernel
theorem dX7_voice_11 : decode cX7_voice 11 = .ok (.invokestatic 58, 3) := by decide +kernel
theorem dX7_voice_14 : decode cX7_voice 14 = .ok (.ifCond .ne 9, 3) := by decide +kernel
theorem dX7_voice_17 : decode cX7_voice 17 = .ok (.aload_n 0, 1) := by decide +kernel
theorem dX7_voice_18 : decode cX7_voice 18 = .ok (.iconst 1, 1) := by decide +kernel
theorem dX7_voice_19 : decode cX7_voice 19 = .ok (.invokevirtual 62, 3) := by decide +kernel
theorem dX7_voice_22 : decode cX7_voice 22 = .ok (.ireturn, 1) := by decide +kernel
theorem dX7_voice_23 : decode cX7_voice 23 = .ok (.iconst 3, 1) := by decide +kernel
theorem dX7_voice_24 : decode cX7_voice 24 = .ok (.iload_n 1, 1) := by decide +kernel
theorem dX7_voice_25 : decode cX7_voice 25 = .ok (.imul, 1) := by decide +kernel
theorem dX7_voice_26 : decode cX7_voice 26 = .ok (.iload_n 2, 1) := by decide +kernel
theorem dX7_voice_27 : decode cX7_voice 27 = .ok (.iadd, 1) := by decide +kernel
theorem dX7_voice_28 : decode cX7_voice 28 = .ok (.istore 5, 2) := by decide +kernel
theorem dX7_voice_30 : decode cX7_voice 30 = .ok (.aload_n 0, 1) := by decide +kernel
theorem dX7_voice_31 : decode cX7_voice 31 = .ok (.getfield 43, 3) := by decide +kernel
theorem dX7_voice_34 : decode cX7_voice 34 = .ok (.aload_n 0, 1) := by decide +kernel
theorem dX7_voice_35 : decode cX7_voice 35 = .ok (.getfield 12, 3) := by decide +kernel
theorem dX7_voice_38 : decode cX7_voice 38 = .ok (.getfield 110, 3) := by decide +kernel
theorem dX7_voice_41 : decode cX7_voice 41 = .ok (.iload 5, 2) := by decide +kernel
theorem dX7_voice_43 : decode cX7_voice 43 = .ok (.iaload, 1) := by decide +kernel
theorem dX7_voice_44 : decode cX7_voice 44 = .ok (.aload_n 0, 1) := by decide +kernel
theorem dX7_voice_45 : decode cX7_voice 45 = .ok (.getfield 12, 3) := by decide +kernel
theorem dX7_voice_48 : decode cX7_voice 48 = .ok (.getfield 113, 3) := by decide +kernel
theorem dX7_voice_51 : decode cX7_voice 51 = .ok (.iload 5, 2) := by decide +kernel
theorem dX7_voice_53 : decode cX7_voice 53 = .ok (.iaload, 1) := by decide +kernel
theorem dX7_voice_54 : decode cX7_voice 54 = .ok (.iload 5, 2) := by decide +kernel
theorem dX7_voice_56 : decode cX7_voice 56 = .ok (.iload_n 3, 1) := by decide +kernel
theorem dX7_voice_57 : decode cX7_voice 57 = .ok (.iload 4, 2) := by decide +kernel
theorem dX7_voice_59 : decode cX7_voice 59 = .ok (.invokevirtual 239, 3) := by decide +kernel
theorem dX7_voice_62 : decode cX7_voice 62 = .ok (.istore 6, 2) := by decide +kernel
theorem dX7_voice_64 : decode cX7_voice 64 = .ok (.aload_n 0, 1) := by decide +kernel
theorem dX7_voice_65 : decode cX7_voice 65 = .ok (.getfield 43, 3) := by decide +kernel
theorem dX7_voice_68 : decode cX7_voice 68 = .ok (.getfield 243, 3) := by decide +kernel
theorem dX7_voice_71 : decode cX7_voice 71 = .ok (.ifCond .eq 12, 3) := by decide +kernel
theorem dX7_voice_74 : decode cX7_voice 74 = .ok (.aload_n 0, 1) := by decide +kernel
theorem dX7_voice_75 : decode cX7_voice 75 = .ok (.bipush 6, 2) := by decide +kernel
theorem dX7_voice_77 : decode cX7_voice 77 = .ok (.invokevirtual 62, 3) := by decide +kernel
theorem dX7_voice_80 : decode cX7_voice 80 = .ok (.goto 5, 3) := by decide +kernel
theorem dX7_voice_83 : decode cX7_voice 83 = .ok (.iload 6, 2) := by decide +kernel
theorem dX7_voice_85 : decode cX7_voice 85 = .ok (.ireturn, 1) := by decide +kernel
theorem dX7_body_0 : decode cX7_body 0 = .ok (.iload_n 1, 1) := by decide +kernel
theorem dX7_body_1 : decode cX7_body 1 = .ok (.aload_n 0, 1) := by decide +kernel
theorem dX7_body_2 : decode cX7_body 2 = .ok (.getfield 43, 3) := by decide +kernel
theorem dX7_body_5 : decode cX7_body 5 = .ok (.getfield 247, 3) := by decide +kernel
theorem dX7_body_8 : decode cX7_body 8 = .ok (.invokestatic 58, 3) := by decide +kernel
theorem dX7_body_11 : decode cX7_body 11 = .ok (.ifCond .ne 9, 3) := by decide +kernel
theorem dX7_body_14 : decode cX7_body 14 = .ok (.aload_n 0, 1) := by decide +kernel
theorem dX7_body_15 : decode cX7_body 15 = .ok (.iconst 2, 1) := by decide +kernel
theorem dX7_body_16 : decode cX7_body 16 = .ok (.invokevirtual 62, 3) := by decide +kernel
theorem dX7_body_19 : decode cX7_body 19 = .ok (.ireturn, 1) := by decide +kernel
theorem dX7_body_20 : decode cX7_body 20 = .ok (.aload_n 0, 1) := by decide +kernel
theorem dX7_body_21 : decode cX7_body 21 = .ok (.getfield 43, 3) := by decide +kernel
theorem dX7_body_24 : decode cX7_body 24 = .ok (.getfield 250, 3) := by decide +kernel
theorem dX7_body_27 : decode cX7_body 27 = .ok (.iload_n 1, 1) := by decide +kernel
theorem dX7_body_28 : decode cX7_body 28 = .ok (.iaload, 1) := by decide +kernel
theorem dX7_body_29 : decode cX7_body 29 = .ok (.ireturn, 1) := by decide +kernel
theorem dX7_sheet_0 : decode cX7_sheet 0 = .ok (.iload_n 1, 1) := by decide +kernel
theorem dX7_sheet_1 : decode cX7_sheet 1 = .ok (.iconst 4, 1) := by decide +kernel
theorem dX7_sheet_2 : decode cX7_sheet 2 = .ok (.invokestatic 58, 3) := by decide +kernel
theorem dX7_sheet_5 : decode cX7_sheet 5 = .ok (.ifCond .eq 25, 3) := by decide +kernel
theorem dX7_sheet_8 : decode cX7_sheet 8 = .ok (.iload_n 2, 1) := by decide +kernel
theorem dX7_sheet_9 : decode cX7_sheet 9 = .ok (.ifCond .eq 27, 3) := by decide +kernel
theorem dX7_sheet_12 : decode cX7_sheet 12 = .ok (.iload_n 2, 1) := by decide +kernel
theorem dX7_sheet_13 : decode cX7_sheet 13 = .ok (.bipush 8, 2) := by decide +kernel
theorem dX7_sheet_15 : decode cX7_sheet 15 = .ok (.if_icmp .eq 21, 3) := by decide +kernel
theorem dX7_sheet_18 : decode cX7_sheet 18 = .ok (.iload_n 2, 1) := by decide +kernel
theorem dX7_sheet_19 : decode cX7_sheet 19 = .ok (.bipush 16, 2) := by decide +kernel
theorem dX7_sheet_21 : decode cX7_sheet 21 = .ok (.if_icmp .eq 15, 3) := by decide +kernel
theorem dX7_sheet_24 : decode cX7_sheet 24 = .ok (.iload_n 2, 1) := by decide +kernel
theorem dX7_sheet_25 : decode cX7_sheet 25 = .ok (.bipush 32, 2) := by decide +kernel
theorem dX7_sheet_27 : decode cX7_sheet 27 = .ok (.if_icmp .eq 9, 3) := by decide +kernel
theorem dX7_sheet_30 : decode cX7_sheet 30 = .ok (.aload_n 0, 1) := by decide +kernel
theorem dX7_sheet_31 : decode cX7_sheet 31 = .ok (.iconst 1, 1) := by decide +kernel
theorem dX7_sheet_32 : decode cX7_sheet 32 = .ok (.invokevirtual 62, 3) := by decide +kernel
theorem dX7_sheet_35 : decode cX7_sheet 35 = .ok (.ireturn, 1) := by decide +kernel
theorem dX7_sheet_36 : decode cX7_sheet 36 = .ok (.iload_n 2, 1) := by decide +kernel
theorem dX7_sheet_37 : decode cX7_sheet 37 = .ok (.ifCond .eq 13, 3) := by decide +kernel
theorem dX7_sheet_40 : decode cX7_sheet 40 = .ok (.iload_n 3, 1) := by decide +kernel
theorem dX7_sheet_41 : decode cX7_sheet 41 = .ok (.ifCond .ge 9, 3) := by decide +kernel
theorem dX7_sheet_44 : decode cX7_sheet 44 = .ok (.aload_n 0, 1) := by decide +kernel
theorem dX7_sheet_45 : decode cX7_sheet 45 = .ok (.iconst 3, 1) := by decide +kernel
theorem dX7_sheet_46 : decode cX7_sheet 46 = .ok (.invokevirtual 62, 3) := by decide +kernel
theorem dX7_sheet_49 : decode cX7_sheet 49 = .ok (.ireturn, 1) := by decide +kernel
theorem dX7_sheet_50 : decode cX7_sheet 50 = .ok (.iload_n 2, 1) := by decide +kernel
theorem dX7_sheet_51 : decode cX7_sheet 51 = .ok (.ifCond .eq 15, 3) := by decide +kernel
theorem dX7_sheet_54 : decode cX7_sheet 54 = .ok (.iload_n 3, 1) := by decide +kernel
theorem dX7_sheet_55 : decode cX7_sheet 55 = .ok (.bipush 24, 2) := by decide +kernel
theorem dX7_sheet_57 : decode cX7_sheet 57 = .ok (.if_icmp .le 9, 3) := by decide +kernel
theorem dX7_sheet_60 : decode cX7_sheet 60 = .ok (.aload_n 0, 1) := by decide +kernel
theorem dX7_sheet_61 : decode cX7_sheet 61 = .ok (.iconst 1, 1) := by decide +kernel
theorem dX7_sheet_62 : decode cX7_sheet 62 = .ok (.invokevirtual 62, 3) := by decide +kernel
theorem dX7_sheet_65 : decode cX7_sheet 65 = .ok (.ireturn, 1) := by decide +kernel
theorem dX7_sheet_66 : decode cX7_sheet 66 = .ok (.aload_n 0, 1) := by decide +kernel
theorem dX7_sheet_67 : decode cX7_sheet 67 = .ok (.getfield 49, 3) := by decide +kernel
theorem dX7_sheet_70 : decode cX7_sheet 70 = .ok (.iload_n 1, 1) := by decide +kernel
theorem dX7_sheet_71 : decode cX7_sheet 71 = .ok (.aaload, 1) := by decide +kernel
theorem dX7_sheet_72 : decode cX7_sheet 72 = .ok (.iload_n 2, 1) := by decide +kernel
theorem dX7_sheet_73 : decode cX7_sheet 73 = .ok (.iload_n 2, 1) := by decide +kernel
theorem dX7_sheet_74 : decode cX7_sheet 74 = .ok (.ifCond .ne 7, 3) := by decide +kernel
theorem dX7_sheet_77 : decode cX7_sheet 77 = .ok (.iconst 0, 1) := by decide +kernel
theorem dX7_sheet_78 : decode cX7_sheet 78 = .ok (.goto 4, 3) := by decide +kernel
theorem dX7_sheet_81 : decode cX7_sheet 81 = .ok (.iload_n 3, 1) := by decide +kernel
theorem dX7_sheet_82 : decode cX7_sheet 82 = .ok (.invokevirtual 253, 3) := by decide +kernel
theorem dX7_sheet_85 : decode cX7_sheet 85 = .ok (.iconst 1, 1) := by decide +kernel
theorem dX7_sheet_86 : decode cX7_sheet 86 = .ok (.ireturn, 1) := by decide +kernel
theorem dX7_put_0 : decode cX7_put 0 = .ok (.iload_n 1, 1) := by decide +kernel
theorem dX7_put_1 : decode cX7_put 1 = .ok (.iconst 4, 1) := by decide +kernel
theorem dX7_put_2 : decode cX7_put 2 = .ok (.invokestatic 58, 3) := by decide +kernel
theorem dX7_put_5 : decode cX7_put 5 = .ok (.ifCond .ne 9, 3) := by decide +kernel
theorem dX7_put_8 : decode cX7_put 8 = .ok (.aload_n 0, 1) := by decide +kernel
theorem dX7_put_9 : decode cX7_put 9 = .ok (.iconst 1, 1) := by decide +kernel
theorem dX7_put_10 : decode cX7_put 10 = .ok (.invokevirtual 62, 3) := by decide +kernel
theorem dX7_put_13 : decode cX7_put 13 = .ok (.ireturn, 1) := by decide +kernel
theorem dX7_put_14 : decode cX7_put 14 = .ok (.aload_n 0, 1) := by decide +kernel
theorem dX7_put_15 : decode cX7_put 15 = .ok (.getfield 49, 3) := by decide +kernel
theorem dX7_put_18 : decode cX7_put 18 = .ok (.iload_n 1, 1) := by decide +kernel
theorem dX7_put_19 : decode cX7_put 19 = .ok (.aaload, 1) := by decide +kernel
theorem dX7_put_20 : decode cX7_put 20 = .ok (.astore 4, 2) := by decide +kernel
theorem dX7_put_22 : decode cX7_put 22 = .ok (.aload 4, 2) := by decide +kernel
theorem dX7_put_24 : decode cX7_put 24 = .ok (.invokevirtual 221, 3) := by decide +kernel
theorem dX7_put_27 : decode cX7_put 27 = .ok (.ifCond .ne 9, 3) := by decide +kernel
theorem dX7_put_30 : decode cX7_put 30 = .ok (.aload_n 0, 1) := by decide +kernel
theorem dX7_put_31 : decode cX7_put 31 = .ok (.iconst 2, 1) := by decide +kernel
theorem dX7_put_32 : decode cX7_put 32 = .ok (.invokevirtual 62, 3) := by decide +kernel
theorem dX7_put_35 : decode cX7_put 35 = .ok (.ireturn, 1) := by decide +kernel
theorem dX7_put_36 : decode cX7_put 36 = .ok (.iload_n 2, 1) := by decide +kernel
theorem dX7_put_37 : decode cX7_put 37 = .ok (.aload 4, 2) := by decide +kernel
theorem dX7_put_39 : decode cX7_put 39 = .ok (.getfield 222, 3) := by decide +kernel
theorem dX7_put_42 : decode cX7_put 42 = .ok (.invokestatic 58, 3) := by decide +kernel
theorem dX7_put_45 : decode cX7_put 45 = .ok (.ifCond .ne 9, 3) := by decide +kernel
theorem dX7_put_48 : decode cX7_put 48 = .ok (.aload_n 0, 1) := by decide +kernel
theorem dX7_put_49 : decode cX7_put 49 = .ok (.iconst 1, 1) := by decide +kernel
theorem dX7_put_50 : decode cX7_put 50 = .ok (.invokevirtual 62, 3) := by decide +kernel
theorem dX7_put_53 : decode cX7_put 53 = .ok (.ireturn, 1) := by decide +kernel
theorem dX7_put_54 : decode cX7_put 54 = .ok (.aload 4, 2) := by decide +kernel
theorem dX7_put_56 : decode cX7_put 56 = .ok (.iload_n 2, 1) := by decide +kernel
theorem dX7_put_57 : decode cX7_put 57 = .ok (.iload_n 3, 1) := by decide +kernel
theorem dX7_put_58 : decode cX7_put 58 = .ok (.invokevirtual 257, 3) := by decide +kernel
theorem dX7_put_61 : decode cX7_put 61 = .ok (.iconst 1, 1) := by decide +kernel
theorem dX7_put_62 : decode cX7_put 62 = .ok (.ireturn, 1) := by decide +kernel
theorem dX7_move_0 : decode cX7_move 0 = .ok (.iload_n 1, 1) := by decide +kernel
theorem dX7_move_1 : decode cX7_move 1 = .ok (.iconst 4, 1) := by decide +kernel
theorem dX7_move_2 : decode cX7_move 2 = .ok (.invokestatic 58, 3) := by decide +kernel
theorem dX7_move_5 : decode cX7_move 5 = .ok (.ifCond .eq 11, 3) := by decide +kernel
theorem dX7_move_8 : decode cX7_move 8 = .ok (.iload_n 3, 1) := by decide +kernel
theorem dX7_move_9 : decode cX7_move 9 = .ok (.iconst 4, 1) := by decide +kernel
theorem dX7_move_10 : decode cX7_move 10 = .ok (.invokestatic 58, 3) := by decide +kernel
theorem dX7_move_13 : decode cX7_move 13 = .ok (.ifCond .ne 9, 3) := by decide +kernel
theorem dX7_move_16 : decode cX7_move 16 = .ok (.aload_n 0, 1) := by decide +kernel
theorem dX7_move_17 : decode cX7_move 17 = .ok (.iconst 1, 1) := by decide +kernel
theorem dX7_move_18 : decode cX7_move 18 = .ok (.invokevirtual 62, 3) := by decide +kernel
theorem dX7_move_21 : decode cX7_move 21 = .ok (.ireturn, 1) := by decide +kernel
theorem dX7_move_22 : decode cX7_move 22 = .ok (.aload_n 0, 1) := by decide +kernel
theorem dX7_move_23 : decode cX7_move 23 = .ok (.getfield 49, 3) := by decide +kernel
theorem dX7_move_26 : decode cX7_move 26 = .ok (.iload_n 1, 1) := by decide +kernel
theorem dX7_move_27 : decode cX7_move 27 = .ok (.aaload, 1) := by decide +kernel
theorem dX7_move_28 : decode cX7_move 28 = .ok (.astore 6, 2) := by decide +kernel
theorem dX7_move_30 : decode cX7_move 30 = .ok (.aload_n 0, 1) := by decide +kernel
theorem dX7_move_31 : decode cX7_move 31 = .ok (.getfield 49, 3) := by decide +kernel
theorem dX7_move_34 : decode cX7_move 34 = .ok (.iload_n 3, 1) := by decide +kernel
theorem dX7_move_35 : decode cX7_move 35 = .ok (.aaload, 1) := by decide +kernel
theorem dX7_move_36 : decode cX7_move 36 = .ok (.astore 7, 2) := by decide +kernel
theorem dX7_move_38 : decode cX7_move 38 = .ok (.aload 6, 2) := by decide +kernel
theorem dX7_move_40 : decode cX7_move 40 = .ok (.invokevirtual 221, 3) := by decide +kernel
theorem dX7_move_43 : decode cX7_move 43 = .ok (.ifCond .eq 11, 3) := by decide +kernel
theorem dX7_move_46 : decode cX7_move 46 = .ok (.aload 7, 2) := by decide +kernel
theorem dX7_move_48 : decode cX7_move 48 = .ok (.invokevirtual 221, 3) := by decide +kernel
theorem dX7_move_51 : decode cX7_move 51 = .ok (.ifCond .ne 9, 3) := by decide +kernel
theorem dX7_move_54 : decode cX7_move 54 = .ok (.aload_n 0, 1) := by decide +kernel
theorem dX7_move_55 : decode cX7_move 55 = .ok (.iconst 2, 1) := by decide +kernel
theorem dX7_move_56 : decode cX7_move 56 = .ok (.invokevirtual 62, 3) := by decide +kernel
theorem dX7_move_59 : decode cX7_move 59 = .ok (.ireturn, 1) := by decide +kernel
theorem dX7_move_60 : decode cX7_move 60 = .ok (.aload 6, 2) := by decide +kernel
theorem dX7_move_62 : decode cX7_move 62 = .ok (.getfield 260, 3) := by decide +kernel
theorem dX7_move_65 : decode cX7_move 65 = .ok (.aload 7, 2) := by decide +kernel
theorem dX7_move_67 : decode cX7_move 67 = .ok (.getfield 260, 3) := by decide +kernel
theorem dX7_move_70 : decode cX7_move 70 = .ok (.if_icmp .eq 9, 3) := by decide +kernel
theorem dX7_move_73 : decode cX7_move 73 = .ok (.aload_n 0, 1) := by decide +kernel
theorem dX7_move_74 : decode cX7_move 74 = .ok (.iconst 5, 1) := by decide +kernel
theorem dX7_move_75 : decode cX7_move 75 = .ok (.invokevirtual 62, 3) := by decide +kernel
theorem dX7_move_78 : decode cX7_move 78 = .ok (.ireturn, 1) := by decide +kernel
theorem dX7_move_79 : decode cX7_move 79 = .ok (.aload 6, 2) := by decide +kernel
theorem dX7_move_81 : decode cX7_move 81 = .ok (.iload_n 2, 1) := by decide +kernel
theorem dX7_move_82 : decode cX7_move 82 = .ok (.iload 5, 2) := by decide +kernel
theorem dX7_move_84 : decode cX7_move 84 = .ok (.invokevirtual 263, 3) := by decide +kernel
theorem dX7_move_87 : decode cX7_move 87 = .ok (.ifCond .eq 15, 3) := by decide +kernel
theorem dX7_move_90 : decode cX7_move 90 = .ok (.aload 7, 2) := by decide +kernel
theorem dX7_move_92 : decode cX7_move 92 = .ok (.iload 4, 2) := by decide +kernel
theorem dX7_move_94 : decode cX7_move 94 = .ok (.iload 5, 2) := by decide +kernel
theorem dX7_move_96 : decode cX7_move 96 = .ok (.invokevirtual 263, 3) := by decide +kernel
theorem dX7_move_99 : decode cX7_move 99 = .ok (.ifCond .ne 9, 3) := by decide +kernel
theorem dX7_move_102 : decode cX7_move 102 = .ok (.aload_n 0, 1) := by decide +kernel
theorem dX7_move_103 : decode cX7_move 103 = .ok (.iconst 1, 1) := by decide +kernel
theorem dX7_move_104 : decode cX7_move 104 = .ok (.invokevirtual 62, 3) := by decide +kernel
theorem dX7_move_107 : decode cX7_move 107 = .ok (.ireturn, 1) := by decide +kernel
theorem dX7_move_108 : decode cX7_move 108 = .ok (.aload 6, 2) := by decide +kernel
theorem dX7_move_110 : decode cX7_move 110 = .ok (.getfield 225, 3) := by decide +kernel
theorem dX7_move_113 : decode cX7_move 113 = .ok (.iload_n 2, 1) := by decide +kernel
theorem dX7_move_114 : decode cX7_move 114 = .ok (.aload 7, 2) := by decide +kernel
theorem dX7_move_116 : decode cX7_move 116 = .ok (.getfield 225, 3) := by decide +kernel
theorem dX7_move_119 : decode cX7_move 119 = .ok (.iload 4, 2) := by decide +kernel
theorem dX7_move_121 : decode cX7_move 121 = .ok (.iload 5, 2) := by decide +kernel
theorem dX7_move_123 : decode cX7_move 123 = .ok (.invokestatic 266, 3) := by decide +kernel
theorem dX7_move_126 : decode cX7_move 126 = .ok (.iload 5, 2) := by decide +kernel
theorem dX7_move_128 : decode cX7_move 128 = .ok (.ireturn, 1) := by decide +kernel
theorem dX7_lands_0 : decode cX7_lands 0 = .ok (.iload_n 1, 1) := by decide +kernel
theorem dX7_lands_1 : decode cX7_lands 1 = .ok (.iconst 4, 1) := by decide +kernel
theorem dX7_lands_2 : decode cX7_lands 2 = .ok (.invokestatic 58, 3) := by decide +kernel
theorem dX7_lands_5 : decode cX7_lands 5 = .ok (.ifCond .ne 9, 3) := by decide +kernel
theorem dX7_lands_8 : decode cX7_lands 8 = .ok (.aload_n 0, 1) := by decide +kernel
theorem dX7_lands_9 : decode cX7_lands 9 = .ok (.iconst 1, 1) := by decide +kernel
theorem dX7_lands_10 : decode cX7_lands 10 = .ok (.invokevirtual 62, 3) := by decide +kernel
theorem dX7_lands_13 : decode cX7_lands 13 = .ok (.ireturn, 1) := by decide +kernel
theorem dX7_lands_14 : decode cX7_lands 14 = .ok (.aload_n 0, 1) := by decide +kernel
theorem dX7_lands_15 : decode cX7_lands 15 = .ok (.getfield 49, 3) := by decide +kernel
theorem dX7_lands_18 : decode cX7_lands 18 = .ok (.iload_n 1, 1) := by decide +kernel
theorem dX7_lands_19 : decode cX7_lands 19 = .ok (.aaload, 1) := by decide +kernel
theorem dX7_lands_20 : decode cX7_lands 20 = .ok (.astore_n 2, 1) := by decide +kernel
theorem dX7_lands_21 : decode cX7_lands 21 = .ok (.aload_n 2, 1) := by decide +kernel
theorem dX7_lands_22 : decode cX7_lands 22 = .ok (.invokevirtual 221, 3) := by decide +kernel
theorem dX7_lands_25 : decode cX7_lands 25 = .ok (.ifCond .ne 9, 3) := by decide +kernel
theorem dX7_lands_28 : decode cX7_lands 28 = .ok (.aload_n 0, 1) := by decide +kernel
theorem dX7_lands_29 : decode cX7_lands 29 = .ok (.iconst 2, 1) := by decide +kernel
theorem dX7_lands_30 : decode cX7_lands 30 = .ok (.invokevirtual 62, 3) := by decide +kernel
theorem dX7_lands_33 : decode cX7_lands 33 = .ok (.ireturn, 1) := by decide +kernel
theorem dX7_lands_34 : decode cX7_lands 34 = .ok (.iconst 0, 1) := by decide +kernel
theorem dX7_lands_35 : decode cX7_lands 35 = .ok (.istore_n 3, 1) := by decide +kernel
theorem dX7_lands_36 : decode cX7_lands 36 = .ok (.iload_n 3, 1) := by decide +kernel
theorem dX7_lands_37 : decode cX7_lands 37 = .ok (.aload_n 2, 1) := by decide +kernel
theorem dX7_lands_38 : decode cX7_lands 38 = .ok (.getfield 222, 3) := by decide +kernel
theorem dX7_lands_41 : decode cX7_lands 41 = .ok (.if_icmp .ge 40, 3) := by decide +kernel
theorem dX7_lands_44 : decode cX7_lands 44 = .ok (.aload_n 2, 1) := by decide +kernel
theorem dX7_lands_45 : decode cX7_lands 45 = .ok (.getfield 225, 3) := by decide +kernel
theorem dX7_lands_48 : decode cX7_lands 48 = .ok (.iload_n 3, 1) := by decide +kernel
theorem dX7_lands_49 : decode cX7_lands 49 = .ok (.iaload, 1) := by decide +kernel
theorem dX7_lands_50 : decode cX7_lands 50 = .ok (.istore 4, 2) := by decide +kernel
theorem dX7_lands_52 : decode cX7_lands 52 = .ok (.iload 4, 2) := by decide +kernel
theorem dX7_lands_54 : decode cX7_lands 54 = .ok (.bipush 64, 2) := by decide +kernel
theorem dX7_lands_56 : decode cX7_lands 56 = .ok (.invokestatic 58, 3) := by decide +kernel
theorem dX7_lands_59 : decode cX7_lands 59 = .ok (.ifCond .ne 5, 3) := by decide +kernel
theorem dX7_lands_62 : decode cX7_lands 62 = .ok (.iload_n 3, 1) := by decide +kernel
theorem dX7_lands_63 : decode cX7_lands 63 = .ok (.ireturn, 1) := by decide +kernel
theorem dX7_lands_64 : decode cX7_lands 64 = .ok (.aload_n 0, 1) := by decide +kernel
theorem dX7_lands_65 : decode cX7_lands 65 = .ok (.getfield 12, 3) := by decide +kernel
theorem dX7_lands_68 : decode cX7_lands 68 = .ok (.getfield 66, 3) := by decide +kernel
theorem dX7_lands_71 : decode cX7_lands 71 = .ok (.iload 4, 2) := by decide +kernel
theorem dX7_lands_73 : decode cX7_lands 73 = .ok (.iconst 1, 1) := by decide +kernel
theorem dX7_lands_74 : decode cX7_lands 74 = .ok (.iastore, 1) := by decide +kernel
theorem dX7_lands_75 : decode cX7_lands 75 = .ok (.iinc 3 1, 3) := by decide +kernel
theorem dX7_lands_78 : decode cX7_lands 78 = .ok (.goto (-42), 3) := by decide +kernel
theorem dX7_lands_81 : decode cX7_lands 81 = .ok (.aload_n 2, 1) := by decide +kernel
theorem dX7_lands_82 : decode cX7_lands 82 = .ok (.getfield 222, 3) := by decide +kernel
theorem dX7_lands_85 : decode cX7_lands 85 = .ok (.ireturn, 1) := by decide +kernel
theorem dX7_judge_0 : decode cX7_judge 0 = .ok (.iload_n 1, 1) := by decide +kernel
theorem dX7_judge_1 : decode cX7_judge 1 = .ok (.iconst 4, 1) := by decide +kernel
theorem dX7_judge_2 : decode cX7_judge 2 = .ok (.invokestatic 58, 3) := by decide +kernel
theorem dX7_judge_5 : decode cX7_judge 5 = .ok (.ifCond .eq 11, 3) := by decide +kernel
theorem dX7_judge_8 : decode cX7_judge 8 = .ok (.aload_n 0, 1) := by decide +kernel
theorem dX7_judge_9 : decode cX7_judge 9 = .ok (.iload_n 2, 1) := by decide +kernel
theorem dX7_judge_10 : decode cX7_judge 10 = .ok (.invokevirtual 84, 3) := by decide +kernel
theorem dX7_judge_13 : decode cX7_judge 13 = .ok (.ifCond .ne 9, 3) := by decide +kernel
theorem dX7_judge_16 : decode cX7_judge 16 = .ok (.aload_n 0, 1) := by decide +kernel
theorem dX7_judge_17 : decode cX7_judge 17 = .ok (.iconst 1, 1) := by decide +kernel
theorem dX7_judge_18 : decode cX7_judge 18 = .ok (.invokevirtual 62, 3) := by decide +kernel
theorem dX7_judge_21 : decode cX7_judge 21 = .ok (.ireturn, 1) := by decide +kernel
theorem dX7_judge_22 : decode cX7_judge 22 = .ok (.aload_n 0, 1) := by decide +kernel
theorem dX7_judge_23 : decode cX7_judge 23 = .ok (.getfield 49, 3) := by decide +kernel
theorem dX7_judge_26 : decode cX7_judge 26 = .ok (.iload_n 1, 1) := by decide +kernel
theorem dX7_judge_27 : decode cX7_judge 27 = .ok (.aaload, 1) := by decide +kernel
theorem dX7_judge_28 : decode cX7_judge 28 = .ok (.astore_n 3, 1) := by decide +kernel
theorem dX7_judge_29 : decode cX7_judge 29 = .ok (.aload_n 3, 1) := by decide +kernel
theorem dX7_judge_30 : decode cX7_judge 30 = .ok (.invokevirtual 221, 3) := by decide +kernel
theorem dX7_judge_33 : decode cX7_judge 33 = .ok (.ifCond .ne 9, 3) := by decide +kernel
theorem dX7_judge_36 : decode cX7_judge 36 = .ok (.aload_n 0, 1) := by decide +kernel
theorem dX7_judge_37 : decode cX7_judge 37 = .ok (.iconst 2, 1) := by decide +kernel
theorem dX7_judge_38 : decode cX7_judge 38 = .ok (.invokevirtual 62, 3) := by decide +kernel
theorem dX7_judge_41 : decode cX7_judge 41 = .ok (.ireturn, 1) := by decide +kernel
theorem dX7_judge_42 : decode cX7_judge 42 = .ok (.aload_n 0, 1) := by decide +kernel
theorem dX7_judge_43 : decode cX7_judge 43 = .ok (.getfield 12, 3) := by decide +kernel
theorem dX7_judge_46 : decode cX7_judge 46 = .ok (.getfield 88, 3) := by decide +kernel
theorem dX7_judge_49 : decode cX7_judge 49 = .ok (.iload_n 2, 1) := by decide +kernel
theorem dX7_judge_50 : decode cX7_judge 50 = .ok (.iaload, 1) := by decide +kernel
theorem dX7_judge_51 : decode cX7_judge 51 = .ok (.istore 4, 2) := by decide +kernel
theorem dX7_judge_53 : decode cX7_judge 53 = .ok (.iconst 0, 1) := by decide +kernel
theorem dX7_judge_54 : decode cX7_judge 54 = .ok (.istore 5, 2) := by decide +kernel
theorem dX7_judge_56 : decode cX7_judge 56 = .ok (.iload 5, 2) := by decide +kernel
theorem dX7_judge_58 : decode cX7_judge 58 = .ok (.aload_n 3, 1) := by decide +kernel
theorem dX7_judge_59 : decode cX7_judge 59 = .ok (.getfield 222, 3) := by decide +kernel
theorem dX7_judge_62 : decode cX7_judge 62 = .ok (.if_icmp .ge 49, 3) := by decide +kernel
theorem dX7_judge_65 : decode cX7_judge 65 = .ok (.aload_n 3, 1) := by decide +kernel
theorem dX7_judge_66 : decode cX7_judge 66 = .ok (.getfield 225, 3) := by decide +kernel
theorem dX7_judge_69 : decode cX7_judge 69 = .ok (.iload 5, 2) := by decide +kernel
theorem dX7_judge_71 : decode cX7_judge 71 = .ok (.iaload, 1) := by decide +kernel
theorem dX7_judge_72 : decode cX7_judge 72 = .ok (.iload 4, 2) := by decide +kernel
theorem dX7_judge_74 : decode cX7_judge 74 = .ok (.invokestatic 95, 3) := by decide +kernel
theorem dX7_judge_77 : decode cX7_judge 77 = .ok (.if_icmp .eq 6, 3) := by decide +kernel
theorem dX7_judge_80 : decode cX7_judge 80 = .ok (.iload 5, 2) := by decide +kernel
theorem dX7_judge_82 : decode cX7_judge 82 = .ok (.ireturn, 1) := by decide +kernel
theorem dX7_judge_83 : decode cX7_judge 83 = .ok (.aload_n 0, 1) := by decide +kernel
theorem dX7_judge_84 : decode cX7_judge 84 = .ok (.getfield 12, 3) := by decide +kernel
theorem dX7_judge_87 : decode cX7_judge 87 = .ok (.iload_n 2, 1) := by decide +kernel
theorem dX7_judge_88 : decode cX7_judge 88 = .ok (.iload 4, 2) := by decide +kernel
theorem dX7_judge_90 : decode cX7_judge 90 = .ok (.aload_n 0, 1) := by decide +kernel
theorem dX7_judge_91 : decode cX7_judge 91 = .ok (.getfield 12, 3) := by decide +kernel
theorem dX7_judge_94 : decode cX7_judge 94 = .ok (.getfield 126, 3) := by decide +kernel
theorem dX7_judge_97 : decode cX7_judge 97 = .ok (.iload 5, 2) := by decide +kernel
theorem dX7_judge_99 : decode cX7_judge 99 = .ok (.iadd, 1) := by decide +kernel
theorem dX7_judge_100 : decode cX7_judge 100 = .ok (.invokevirtual 186, 3) := by decide +kernel
theorem dX7_judge_103 : decode cX7_judge 103 = .ok (.istore 4, 2) := by decide +kernel
theorem dX7_judge_105 : decode cX7_judge 105 = .ok (.iinc 5 1, 3) := by decide +kernel
theorem dX7_judge_108 : decode cX7_judge 108 = .ok (.goto (-52), 3) := by decide +kernel
theorem dX7_judge_111 : decode cX7_judge 111 = .ok (.aload_n 3, 1) := by decide +kernel
theorem dX7_judge_112 : decode cX7_judge 112 = .ok (.getfield 222, 3) := by decide +kernel
theorem dX7_judge_115 : decode cX7_judge 115 = .ok (.ireturn, 1) := by decide +kernel
theorem dX7_image_0 : decode cX7_image 0 = .ok (.aload_n 0, 1) := by decide +kernel
theorem dX7_image_1 : decode cX7_image 1 = .ok (.getfield 16, 3) := by decide +kernel
theorem dX7_image_4 : decode cX7_image 4 = .ok (.aload_n 0, 1) := by decide +kernel
theorem dX7_image_5 : decode cX7_image 5 = .ok (.getfield 12, 3) := by decide +kernel
theorem dX7_image_8 : decode cX7_image 8 = .ok (.invokevirtual 272, 3) := by decide +kernel
theorem dX7_image_11 : decode cX7_image 11 = .ok (.aload_n 0, 1) := by decide +kernel
theorem dX7_image_12 : decode cX7_image 12 = .ok (.dup, 1) := by decide +kernel
theorem dX7_image_13 : decode cX7_image 13 = .ok (.getfield 218, 3) := by decide +kernel
theorem dX7_image_16 : decode cX7_image 16 = .ok (.iconst 1, 1) := by decide +kernel
theorem dX7_image_17 : decode cX7_image 17 = .ok (.iadd, 1) := by decide +kernel
theorem dX7_image_18 : decode cX7_image 18 = .ok (.putfield 218, 3) := by decide +kernel
theorem dX7_image_21 : decode cX7_image 21 = .ok (.aload_n 0, 1) := by decide +kernel
theorem dX7_image_22 : decode cX7_image 22 = .ok (.getfield 218, 3) := by decide +kernel
theorem dX7_image_25 : decode cX7_image 25 = .ok (.ireturn, 1) := by decide +kernel
theorem dX7_restore_0 : decode cX7_restore 0 = .ok (.aload_n 0, 1) := by decide +kernel
theorem dX7_restore_1 : decode cX7_restore 1 = .ok (.getfield 218, 3) := by decide +kernel
theorem dX7_restore_4 : decode cX7_restore 4 = .ok (.ifCond .ne 9, 3) := by decide +kernel
theorem dX7_restore_7 : decode cX7_restore 7 = .ok (.aload_n 0, 1) := by decide +kernel
theorem dX7_restore_8 : decode cX7_restore 8 = .ok (.iconst 2, 1) := by decide +kernel
theorem dX7_restore_9 : decode cX7_restore 9 = .ok (.invokevirtual 62, 3) := by decide +kernel
theorem dX7_restore_12 : decode cX7_restore 12 = .ok (.ireturn, 1) := by decide +kernel
theorem dX7_restore_13 : decode cX7_restore 13 = .ok (.aload_n 0, 1) := by decide +kernel
theorem dX7_restore_14 : decode cX7_restore 14 = .ok (.getfield 12, 3) := by decide +kernel
theorem dX7_restore_17 : decode cX7_restore 17 = .ok (.aload_n 0, 1) := by decide +kernel
theorem dX7_restore_18 : decode cX7_restore 18 = .ok (.getfield 16, 3) := by decide +kernel
theorem dX7_restore_21 : decode cX7_restore 21 = .ok (.invokevirtual 272, 3) := by decide +kernel
theorem dX7_restore_24 : decode cX7_restore 24 = .ok (.aload_n 0, 1) := by decide +kernel
theorem dX7_restore_25 : decode cX7_restore 25 = .ok (.getfield 12, 3) := by decide +kernel
theorem dX7_restore_28 : decode cX7_restore 28 = .ok (.getfield 126, 3) := by decide +kernel
theorem dX7_restore_31 : decode cX7_restore 31 = .ok (.ireturn, 1) := by decide +kernel
theorem dX7_tell_0 : decode cX7_tell 0 = .ok (.aload_n 0, 1) := by decide +kernel
theorem dX7_tell_1 : decode cX7_tell 1 = .ok (.getfield 12, 3) := by decide +kernel
theorem dX7_tell_4 : decode cX7_tell 4 = .ok (.getfield 275, 3) := by decide +kernel
theorem dX7_tell_7 : decode cX7_tell 7 = .ok (.bipush 24, 2) := by decide +kernel
theorem dX7_tell_9 : decode cX7_tell 9 = .ok (.if_icmp .lt 9, 3) := by decide +kernel
theorem dX7_tell_12 : decode cX7_tell 12 = .ok (.aload_n 0, 1) := by decide +kernel
theorem dX7_tell_13 : decode cX7_tell 13 = .ok (.iconst 4, 1) := by decide +kernel
theorem dX7_tell_14 : decode cX7_tell 14 = .ok (.invokevirtual 62, 3) := by decide +kernel
theorem dX7_tell_17 : decode cX7_tell 17 = .ok (.ireturn, 1) := by decide +kernel
theorem dX7_tell_18 : decode cX7_tell 18 = .ok (.aload_n 0, 1) := by decide +kernel
theorem dX7_tell_19 : decode cX7_tell 19 = .ok (.getfield 12, 3) := by decide +kernel
theorem dX7_tell_22 : decode cX7_tell 22 = .ok (.getfield 278, 3) := by decide +kernel
theorem dX7_tell_25 : decode cX7_tell 25 = .ok (.aload_n 0, 1) := by decide +kernel
theorem dX7_tell_26 : decode cX7_tell 26 = .ok (.getfield 12, 3) := by decide +kernel
theorem dX7_tell_29 : decode cX7_tell 29 = .ok (.getfield 275, 3) := by decide +kernel
theorem dX7_tell_32 : decode cX7_tell 32 = .ok (.iload_n 1, 1) := by decide +kernel
theorem dX7_tell_33 : decode cX7_tell 33 = .ok (.iastore, 1) := by decide +kernel
theorem dX7_tell_34 : decode cX7_tell 34 = .ok (.aload_n 0, 1) := by decide +kernel
theorem dX7_tell_35 : decode cX7_tell 35 = .ok (.getfield 12, 3) := by decide +kernel
theorem dX7_tell_38 : decode cX7_tell 38 = .ok (.dup, 1) := by decide +kernel
theorem dX7_tell_39 : decode cX7_tell 39 = .ok (.getfield 275, 3) := by decide +kernel
theorem dX7_tell_42 : decode cX7_tell 42 = .ok (.iconst 1, 1) := by decide +kernel
theorem dX7_tell_43 : decode cX7_tell 43 = .ok (.iadd, 1) := by decide +kernel
theorem dX7_tell_44 : decode cX7_tell 44 = .ok (.putfield 275, 3) := by decide +kernel
theorem dX7_tell_47 : decode cX7_tell 47 = .ok (.aload_n 0, 1) := by decide +kernel
theorem dX7_tell_48 : decode cX7_tell 48 = .ok (.getfield 12, 3) := by decide +kernel
theorem dX7_tell_51 : decode cX7_tell 51 = .ok (.getfield 275, 3) := by decide +kernel
theorem dX7_tell_54 : decode cX7_tell 54 = .ok (.ireturn, 1) := by decide +kernel
theorem dX7_check_0 : decode cX7_check 0 = .ok (.aload_n 0, 1) := by decide +kernel
theorem dX7_check_1 : decode cX7_check 1 = .ok (.getfield 12, 3) := by decide +kernel
theorem dX7_check_4 : decode cX7_check 4 = .ok (.getfield 275, 3) := by decide +kernel
theorem dX7_check_7 : decode cX7_check 7 = .ok (.istore_n 1, 1) := by decide +kernel
theorem dX7_check_8 : decode cX7_check 8 = .ok (.aload_n 0, 1) := by decide +kernel
theorem dX7_check_9 : decode cX7_check 9 = .ok (.getfield 12, 3) := by decide +kernel
theorem dX7_check_12 : decode cX7_check 12 = .ok (.iconst 0, 1) := by decide +kernel
theorem dX7_check_13 : decode cX7_check 13 = .ok (.putfield 275, 3) := by decide +kernel
theorem dX7_check_16 : decode cX7_check 16 = .ok (.iconst 0, 1) := by decide +kernel
theorem dX7_check_17 : decode cX7_check 17 = .ok (.istore_n 2, 1) := by decide +kernel
theorem dX7_check_18 : decode cX7_check 18 = .ok (.iload_n 2, 1) := by decide +kernel
theorem dX7_check_19 : decode cX7_check 19 = .ok (.iload_n 1, 1) := by decide +kernel
theorem dX7_check_20 : decode cX7_check 20 = .ok (.if_icmp .ge 57, 3) := by decide +kernel
theorem dX7_check_23 : decode cX7_check 23 = .ok (.aload_n 0, 1) := by decide +kernel
theorem dX7_check_24 : decode cX7_check 24 = .ok (.getfield 12, 3) := by decide +kernel
theorem dX7_check_27 : decode cX7_check 27 = .ok (.getfield 126, 3) := by decide +kernel
theorem dX7_check_30 : decode cX7_check 30 = .ok (.iload_n 2, 1) := by decide +kernel
theorem dX7_check_31 : decode cX7_check 31 = .ok (.iadd, 1) := by decide +kernel
theorem dX7_check_32 : decode cX7_check 32 = .ok (.istore_n 3, 1) := by decide +kernel
theorem dX7_check_33 : decode cX7_check 33 = .ok (.aload_n 0, 1) := by decide +kernel
theorem dX7_check_34 : decode cX7_check 34 = .ok (.getfield 12, 3) := by decide +kernel
theorem dX7_check_37 : decode cX7_check 37 = .ok (.getfield 278, 3) := by decide +kernel
theorem dX7_check_40 : decode cX7_check 40 = .ok (.iload_n 2, 1) := by decide +kernel
theorem dX7_check_41 : decode cX7_check 41 = .ok (.iaload, 1) := by decide +kernel
theorem dX7_check_42 : decode cX7_check 42 = .ok (.bipush 100, 2) := by decide +kernel
theorem dX7_check_44 : decode cX7_check 44 = .ok (.aload_n 0, 1) := by decide +kernel
theorem dX7_check_45 : decode cX7_check 45 = .ok (.getfield 12, 3) := by decide +kernel
theorem dX7_check_48 : decode cX7_check 48 = .ok (.iconst 0, 1) := by decide +kernel
theorem dX7_check_49 : decode cX7_check 49 = .ok (.iload_n 3, 1) := by decide +kernel
theorem dX7_check_50 : decode cX7_check 50 = .ok (.invokevirtual 138, 3) := by decide +kernel
theorem dX7_check_53 : decode cX7_check 53 = .ok (.imul, 1) := by decide +kernel
theorem dX7_check_54 : decode cX7_check 54 = .ok (.aload_n 0, 1) := by decide +kernel
theorem dX7_check_55 : decode cX7_check 55 = .ok (.getfield 12, 3) := by decide +kernel
theorem dX7_check_58 : decode cX7_check 58 = .ok (.iconst 1, 1) := by decide +kernel
theorem dX7_check_59 : decode cX7_check 59 = .ok (.iload_n 3, 1) := by decide +kernel
theorem dX7_check_60 : decode cX7_check 60 = .ok (.invokevirtual 138, 3) := by decide +kernel
theorem dX7_check_63 : decode cX7_check 63 = .ok (.iadd, 1) := by decide +kernel
theorem dX7_check_64 : decode cX7_check 64 = .ok (.if_icmp .eq 7, 3) := by decide +kernel
theorem dX7_check_67 : decode cX7_check 67 = .ok (.iconst 1, 1) := by decide +kernel
theorem dX7_check_68 : decode cX7_check 68 = .ok (.iload_n 2, 1) := by decide +kernel
theorem dX7_check_69 : decode cX7_check 69 = .ok (.iadd, 1) := by decide +kernel
theorem dX7_check_70 : decode cX7_check 70 = .ok (.ireturn, 1) := by decide +kernel
theorem dX7_check_71 : decode cX7_check 71 = .ok (.iinc 2 1, 3) := by decide +kernel
theorem dX7_check_74 : decode cX7_check 74 = .ok (.goto (-56), 3) := by decide +kernel
theorem dX7_check_77 : decode cX7_check 77 = .ok (.iconst 0, 1) := by decide +kernel
theorem dX7_check_78 : decode cX7_check 78 = .ok (.ireturn, 1) := by decide +kernel
theorem dX7_count_0 : decode cX7_count 0 = .ok (.iload_n 1, 1) := by decide +kernel
theorem dX7_count_1 : decode cX7_count 1 = .ok (.bipush 12, 2) := by decide +kernel
theorem dX7_count_3 : decode cX7_count 3 = .ok (.invokestatic 58, 3) := by decide +kernel
theorem dX7_count_6 : decode cX7_count 6 = .ok (.ifCond .ne 9, 3) := by decide +kernel
theorem dX7_count_9 : decode cX7_count 9 = .ok (.aload_n 0, 1) := by decide +kernel
theorem dX7_count_10 : decode cX7_count 10 = .ok (.iconst 1, 1) := by decide +kernel
theorem dX7_count_11 : decode cX7_count 11 = .ok (.invokevirtual 62, 3) := by decide +kernel
theorem dX7_count_14 : decode cX7_count 14 = .ok (.ireturn, 1) := by decide +kernel
theorem dX7_count_15 : decode cX7_count 15 = .ok (.iload_n 1, 1) := by decide +kernel
theorem dX7_count_16 : decode cX7_count 16 = .ok (.bipush 8, 2) := by decide +kernel
theorem dX7_count_18 : decode cX7_count 18 = .ok (.if_icmp .ne 13, 3) := by decide +kernel
theorem dX7_count_21 : decode cX7_count 21 = .ok (.aload_n 0, 1) := by decide +kernel
theorem dX7_count_22 : decode cX7_count 22 = .ok (.getfield 43, 3) := by decide +kernel
theorem dX7_count_25 : decode cX7_count 25 = .ok (.getfield 247, 3) := by decide +kernel
theorem dX7_count_28 : decode cX7_count 28 = .ok (.goto 11, 3) := by decide +kernel
theorem dX7_count_31 : decode cX7_count 31 = .ok (.aload_n 0, 1) := by decide +kernel
theorem dX7_count_32 : decode cX7_count 32 = .ok (.getfield 12, 3) := by decide +kernel
theorem dX7_count_35 : decode cX7_count 35 = .ok (.iload_n 1, 1) := by decide +kernel
theorem dX7_count_36 : decode cX7_count 36 = .ok (.invokevirtual 281, 3) := by decide +kernel
theorem dX7_count_39 : decode cX7_count 39 = .ok (.ireturn, 1) := by decide +kernel
theorem dX7_told_0 : decode cX7_told 0 = .ok (.iload_n 1, 1) := by decide +kernel
theorem dX7_told_1 : decode cX7_told 1 = .ok (.iconst 1, 1) := by decide +kernel
theorem dX7_told_2 : decode cX7_told 2 = .ok (.bipush 6, 2) := by decide +kernel
theorem dX7_told_4 : decode cX7_told 4 = .ok (.invokestatic 69, 3) := by decide +kernel
theorem dX7_told_7 : decode cX7_told 7 = .ok (.ifCond .ne 9, 3) := by decide +kernel
theorem dX7_told_10 : decode cX7_told 10 = .ok (.aload_n 0, 1) := by decide +kernel
theorem dX7_told_11 : decode cX7_told 11 = .ok (.iconst 1, 1) := by decide +kernel
theorem dX7_told_12 : decode cX7_told 12 = .ok (.invokevirtual 62, 3) := by decide +kernel
theorem dX7_told_15 : decode cX7_told 15 = .ok (.ireturn, 1) := by decide +kernel
theorem dX7_told_16 : decode cX7_told 16 = .ok (.aload_n 0, 1) := by decide +kernel
theorem dX7_told_17 : decode cX7_told 17 = .ok (.getfield 53, 3) := by decide +kernel
theorem dX7_told_20 : decode cX7_told 20 = .ok (.iload_n 1, 1) := by decide +kernel
theorem dX7_told_21 : decode cX7_told 21 = .ok (.iaload, 1) := by decide +kernel
theorem dX7_told_22 : decode cX7_told 22 = .ok (.ireturn, 1) := by decide +kernel
theorem dX7_error_0 : decode cX7_error 0 = .ok (.aload_n 0, 1) := by decide +kernel
theorem dX7_error_1 : decode cX7_error 1 = .ok (.getfield 53, 3) := by decide +kernel
theorem dX7_error_4 : decode cX7_error 4 = .ok (.iload_n 1, 1) := by decide +kernel
theorem dX7_error_5 : decode cX7_error 5 = .ok (.dup2, 1) := by decide +kernel
theorem dX7_error_6 : decode cX7_error 6 = .ok (.iaload, 1) := by decide +kernel
theorem dX7_error_7 : decode cX7_error 7 = .ok (.iconst 1, 1) := by decide +kernel
theorem dX7_error_8 : decode cX7_error 8 = .ok (.iadd, 1) := by decide +kernel
theorem dX7_error_9 : decode cX7_error 9 = .ok (.iastore, 1) := by decide +kernel
theorem dX7_error_10 : decode cX7_error 10 = .ok (.ldc_w 284, 3) := by decide +kernel
theorem dX7_error_13 : decode cX7_error 13 = .ok (.iload_n 1, 1) := by decide +kernel
theorem dX7_error_14 : decode cX7_error 14 = .ok (.isub, 1) := by decide +kernel
theorem dX7_error_15 : decode cX7_error 15 = .ok (.ireturn, 1) := by decide +kernel
theorem dX7_isShip_0 : decode cX7_isShip 0 = .ok (.iload_n 1, 1) := by decide +kernel
theorem dX7_isShip_1 : decode cX7_isShip 1 = .ok (.aload_n 0, 1) := by decide +kernel
theorem dX7_isShip_2 : decode cX7_isShip 2 = .ok (.getfield 12, 3) := by decide +kernel
theorem dX7_isShip_5 : decode cX7_isShip 5 = .ok (.getfield 76, 3) := by decide +kernel
theorem dX7_isShip_8 : decode cX7_isShip 8 = .ok (.invokestatic 58, 3) := by decide +kernel
theorem dX7_isShip_11 : decode cX7_isShip 11 = .ok (.ireturn, 1) := by decide +kernel
theorem dX7_isKnot_0 : decode cX7_isKnot 0 = .ok (.aload_n 0, 1) := by decide +kernel
theorem dX7_isKnot_1 : decode cX7_isKnot 1 = .ok (.iload_n 1, 1) := by decide +kernel
theorem dX7_isKnot_2 : decode cX7_isKnot 2 = .ok (.invokevirtual 84, 3) := by decide +kernel
theorem dX7_isKnot_5 : decode cX7_isKnot 5 = .ok (.ifCond .eq 15, 3) := by decide +kernel
theorem dX7_isKnot_8 : decode cX7_isKnot 8 = .ok (.iload_n 2, 1) := by decide +kernel
theorem dX7_isKnot_9 : decode cX7_isKnot 9 = .ok (.iconst 3, 1) := by decide +kernel
theorem dX7_isKnot_10 : decode cX7_isKnot 10 = .ok (.invokestatic 58, 3) := by decide +kernel
theorem dX7_isKnot_13 : decode cX7_isKnot 13 = .ok (.ifCond .eq 7, 3) := by decide +kernel
theorem dX7_isKnot_16 : decode cX7_isKnot 16 = .ok (.iconst 1, 1) := by decide +kernel
theorem dX7_isKnot_17 : decode cX7_isKnot 17 = .ok (.goto 4, 3) := by decide +kernel
theorem dX7_isKnot_20 : decode cX7_isKnot 20 = .ok (.iconst 0, 1) := by decide +kernel
theorem dX7_isKnot_21 : decode cX7_isKnot 21 = .ok (.ireturn, 1) := by decide +kernel
theorem dX7_within_0 : decode cX7_within 0 = .ok (.iload_n 0, 1) := by decide +kernel
theorem dX7_within_1 : decode cX7_within 1 = .ok (.ifCond .lt 12, 3) := by decide +kernel
theorem dX7_within_4 : decode cX7_within 4 = .ok (.iload_n 0, 1) := by decide +kernel
theorem dX7_within_5 : decode cX7_within 5 = .ok (.iload_n 1, 1) := by decide +kernel
theorem dX7_within_6 : decode cX7_within 6 = .ok (.if_icmp .ge 7, 3) := by decide +kernel
theorem dX7_within_9 : decode cX7_within 9 = .ok (.iconst 1, 1) := by decide +kernel
theorem dX7_within_10 : decode cX7_within 10 = .ok (.goto 4, 3) := by decide +kernel
theorem dX7_within_13 : decode cX7_within 13 = .ok (.iconst 0, 1) := by decide +kernel
theorem dX7_within_14 : decode cX7_within 14 = .ok (.ireturn, 1) := by decide +kernel
theorem dX7_between_0 : decode cX7_between 0 = .ok (.iload_n 0, 1) := by decide +kernel
theorem dX7_between_1 : decode cX7_between 1 = .ok (.iload_n 1, 1) := by decide +kernel
theorem dX7_between_2 : decode cX7_between 2 = .ok (.if_icmp .lt 12, 3) := by decide +kernel
theorem dX7_between_5 : decode cX7_between 5 = .ok (.iload_n 0, 1) := by decide +kernel
theorem dX7_between_6 : decode cX7_between 6 = .ok (.iload_n 2, 1) := by decide +kernel
theorem dX7_between_7 : decode cX7_between 7 = .ok (.if_icmp .gt 7, 3) := by decide +kernel
theorem dX7_between_10 : decode cX7_between 10 = .ok (.iconst 1, 1) := by decide +kernel
theorem dX7_between_11 : decode cX7_between 11 = .ok (.goto 4, 3) := by decide +kernel
theorem dX7_between_14 : decode cX7_between 14 = .ok (.iconst 0, 1) := by decide +kernel
theorem dX7_between_15 : decode cX7_between 15 = .ok (.ireturn, 1) := by decide +kernel
theorem dX7_cellOf_0 : decode cX7_cellOf 0 = .ok (.iload_n 0, 1) := by decide +kernel
theorem dX7_cellOf_1 : decode cX7_cellOf 1 = .ok (.bipush 64, 2) := by decide +kernel
theorem dX7_cellOf_3 : decode cX7_cellOf 3 = .ok (.irem, 1) := by decide +kernel
theorem dX7_cellOf_4 : decode cX7_cellOf 4 = .ok (.ireturn, 1) := by decide +kernel
theorem dX7_stateOf_0 : decode cX7_stateOf 0 = .ok (.iload_n 0, 1) := by decide +kernel
theorem dX7_stateOf_1 : decode cX7_stateOf 1 = .ok (.bipush 64, 2) := by decide +kernel
theorem dX7_stateOf_3 : decode cX7_stateOf 3 = .ok (.idiv, 1) := by decide +kernel
theorem dX7_stateOf_4 : decode cX7_stateOf 4 = .ok (.ireturn, 1) := by decide +kernel
theorem dX7_laid_0 : decode cX7_laid 0 = .ok (.bipush 64, 2) := by decide +kernel
theorem dX7_laid_2 : decode cX7_laid 2 = .ok (.iload_n 0, 1) := by decide +kernel
theorem dX7_laid_3 : decode cX7_laid 3 = .ok (.iload_n 1, 1) := by decide +kernel
theorem dX7_laid_4 : decode cX7_laid 4 = .ok (.if_icmp .ne 7, 3) := by decide +kernel
theorem dX7_laid_7 : decode cX7_laid 7 = .ok (.iconst 2, 1) := by decide +kernel
theorem dX7_laid_8 : decode cX7_laid 8 = .ok (.goto 4, 3) := by decide +kernel
theorem dX7_laid_11 : decode cX7_laid 11 = .ok (.iconst 0, 1) := by decide +kernel
theorem dX7_laid_12 : decode cX7_laid 12 = .ok (.imul, 1) := by decide +kernel
theorem dX7_laid_13 : decode cX7_laid 13 = .ok (.iload_n 0, 1) := by decide +kernel
theorem dX7_laid_14 : decode cX7_laid 14 = .ok (.iadd, 1) := by decide +kernel
theorem dX7_laid_15 : decode cX7_laid 15 = .ok (.ireturn, 1) := by decide +kernel
theorem dX7_namedKnot_0 : decode cX7_namedKnot 0 = .ok (.bipush 10, 2) := by decide +kernel
theorem dX7_namedKnot_2 : decode cX7_namedKnot 2 = .ok (.iload_n 0, 1) := by decide +kernel
theorem dX7_namedKnot_3 : decode cX7_namedKnot 3 = .ok (.iconst 3, 1) := by decide +kernel
theorem dX7_namedKnot_4 : decode cX7_namedKnot 4 = .ok (.idiv, 1) := by decide +kernel
theorem dX7_namedKnot_5 : decode cX7_namedKnot 5 = .ok (.imul, 1) := by decide +kernel
theorem dX7_namedKnot_6 : decode cX7_namedKnot 6 = .ok (.iload_n 0, 1) := by decide +kernel
theorem dX7_namedKnot_7 : decode cX7_namedKnot 7 = .ok (.iconst 3, 1) := by decide +kernel
theorem dX7_namedKnot_8 : decode cX7_namedKnot 8 = .ok (.irem, 1) := by decide +kernel
theorem dX7_namedKnot_9 : decode cX7_namedKnot 9 = .ok (.iadd, 1) := by decide +kernel
theorem dX7_namedKnot_10 : decode cX7_namedKnot 10 = .ok (.ireturn, 1) := by decide +kernel
theorem dX7_isDay_0 : decode cX7_isDay 0 = .ok (.iload_n 0, 1) := by decide +kernel
theorem dX7_isDay_1 : decode cX7_isDay 1 = .ok (.bipush 24, 2) := by decide +kernel
theorem dX7_isDay_3 : decode cX7_isDay 3 = .ok (.irem, 1) := by decide +kernel
theorem dX7_isDay_4 : decode cX7_isDay 4 = .ok (.bipush 6, 2) := by decide +kernel
theorem dX7_isDay_6 : decode cX7_isDay 6 = .ok (.bipush 17, 2) := by decide +kernel
theorem dX7_isDay_8 : decode cX7_isDay 8 = .ok (.invokestatic 69, 3) := by decide +kernel
theorem dX7_isDay_11 : decode cX7_isDay 11 = .ok (.ireturn, 1) := by decide +kernel
theorem dX7_isUnder_0 : decode cX7_isUnder 0 = .ok (.iload_n 0, 1) := by decide +kernel
theorem dX7_isUnder_1 : decode cX7_isUnder 1 = .ok (.istore_n 2, 1) := by decide +kernel
theorem dX7_isUnder_2 : decode cX7_isUnder 2 = .ok (.iconst 0, 1) := by decide +kernel
theorem dX7_isUnder_3 : decode cX7_isUnder 3 = .ok (.istore_n 3, 1) := by decide +kernel
theorem dX7_isUnder_4 : decode cX7_isUnder 4 = .ok (.iload_n 3, 1) := by decide +kernel
theorem dX7_isUnder_5 : decode cX7_isUnder 5 = .ok (.bipush 7, 2) := by decide +kernel
theorem dX7_isUnder_7 : decode cX7_isUnder 7 = .ok (.if_icmp .ge 31, 3) := by decide +kernel
theorem dX7_isUnder_10 : decode cX7_isUnder 10 = .ok (.iload_n 2, 1) := by decide +kernel
theorem dX7_isUnder_11 : decode cX7_isUnder 11 = .ok (.bipush 7, 2) := by decide +kernel
theorem dX7_isUnder_13 : decode cX7_isUnder 13 = .ok (.invokestatic 58, 3) := by decide +kernel
theorem dX7_isUnder_16 : decode cX7_isUnder 16 = .ok (.ifCond .eq 22, 3) := by decide +kernel
theorem dX7_isUnder_19 : decode cX7_isUnder 19 = .ok (.iload_n 2, 1) := by decide +kernel
theorem dX7_isUnder_20 : decode cX7_isUnder 20 = .ok (.iload_n 1, 1) := by decide +kernel
theorem dX7_isUnder_21 : decode cX7_isUnder 21 = .ok (.if_icmp .ne 5, 3) := by decide +kernel
theorem dX7_isUnder_24 : decode cX7_isUnder 24 = .ok (.iconst 1, 1) := by decide +kernel
theorem dX7_isUnder_25 : decode cX7_isUnder 25 = .ok (.ireturn, 1) := by decide +kernel
theorem dX7_isUnder_26 : decode cX7_isUnder 26 = .ok (.getstatic 285, 3) := by decide +kernel
theorem dX7_isUnder_29 : decode cX7_isUnder 29 = .ok (.iload_n 2, 1) := by decide +kernel
theorem dX7_isUnder_30 : decode cX7_isUnder 30 = .ok (.iaload, 1) := by decide +kernel
theorem dX7_isUnder_31 : decode cX7_isUnder 31 = .ok (.istore_n 2, 1) := by decide +kernel
theorem dX7_isUnder_32 : decode cX7_isUnder 32 = .ok (.iinc 3 1, 3) := by decide +kernel
theorem dX7_isUnder_35 : decode cX7_isUnder 35 = .ok (.goto (-31), 3) := by decide +kernel
theorem dX7_isUnder_38 : decode cX7_isUnder 38 = .ok (.iconst 0, 1) := by decide +kernel
theorem dX7_isUnder_39 : decode cX7_isUnder 39 = .ok (.ireturn, 1) := by decide +kernel
theorem dX7_share_0 : decode cX7_share 0 = .ok (.iload_n 1, 1) := by decide +kernel
theorem dX7_share_1 : decode cX7_share 1 = .ok (.ifCond .ne 7, 3) := by decide +kernel
theorem dX7_share_4 : decode cX7_share 4 = .ok (.iconst 1, 1) := by decide +kernel
theorem dX7_share_5 : decode cX7_share 5 = .ok (.goto 4, 3) := by decide +kernel
theorem dX7_share_8 : decode cX7_share 8 = .ok (.iconst 2, 1) := by decide +kernel
theorem dX7_share_9 : decode cX7_share 9 = .ok (.istore_n 2, 1) := by decide +kernel
theorem dX7_share_10 : decode cX7_share 10 = .ok (.iload_n 1, 1) := by decide +kernel
theorem dX7_share_11 : decode cX7_share 11 = .ok (.ifCond .ne 7, 3) := by decide +kernel
theorem dX7_share_14 : decode cX7_share 14 = .ok (.iconst 3, 1) := by decide +kernel
theorem dX7_share_15 : decode cX7_share 15 = .ok (.goto 4, 3) := by decide +kernel
theorem dX7_share_18 : decode cX7_share 18 = .ok (.iconst 0, 1) := by decide +kernel
theorem dX7_share_19 : decode cX7_share 19 = .ok (.istore_n 3, 1) := by decide +kernel
theorem dX7_share_20 : decode cX7_share 20 = .ok (.iload_n 0, 1) := by decide +kernel
theorem dX7_share_21 : decode cX7_share 21 = .ok (.iload_n 2, 1) := by decide +kernel
theorem dX7_share_22 : decode cX7_share 22 = .ok (.if_icmp .ne 5, 3) := by decide +kernel
theorem dX7_share_25 : decode cX7_share 25 = .ok (.iconst 1, 1) := by decide +kernel
theorem dX7_share_26 : decode cX7_share 26 = .ok (.ireturn, 1) := by decide +kernel
theorem dX7_share_27 : decode cX7_share 27 = .ok (.iload_n 0, 1) := by decide +kernel
theorem dX7_share_28 : decode cX7_share 28 = .ok (.iload_n 3, 1) := by decide +kernel
theorem dX7_share_29 : decode cX7_share 29 = .ok (.if_icmp .ne 7, 3) := by decide +kernel
theorem dX7_share_32 : decode cX7_share 32 = .ok (.iconst (-1), 1) := by decide +kernel
theorem dX7_share_33 : decode cX7_share 33 = .ok (.goto 4, 3) := by decide +kernel
theorem dX7_share_36 : decode cX7_share 36 = .ok (.iconst 0, 1) := by decide +kernel
theorem dX7_share_37 : decode cX7_share 37 = .ok (.ireturn, 1) := by decide +kernel
theorem dX7_held_0 : decode cX7_held 0 = .ok (.iload_n 1, 1) := by decide +kernel
theorem dX7_held_1 : decode cX7_held 1 = .ok (.iload_n 2, 1) := by decide +kernel
theorem dX7_held_2 : decode cX7_held 2 = .ok (.iload_n 0, 1) := by decide +kernel
theorem dX7_held_3 : decode cX7_held 3 = .ok (.invokestatic 288, 3) := by decide +kernel
theorem dX7_held_6 : decode cX7_held 6 = .ok (.invokestatic 293, 3) := by decide +kernel
theorem dX7_held_9 : decode cX7_held 9 = .ok (.ireturn, 1) := by decide +kernel
theorem dX8_init_0 : decode cX8_init 0 = .ok (.aload_n 0, 1) := by decide +kernel
theorem dX8_init_1 : decode cX8_init 1 = .ok (.invokespecial 1, 3) := by decide +kernel
theorem dX8_init_4 : decode cX8_init 4 = .ok (.aload_n 0, 1) := by decide +kernel
theorem dX8_init_5 : decode cX8_init 5 = .ok (.sipush 481, 3) := by decide +kernel
theorem dX8_init_8 : decode cX8_init 8 = .ok (.newarray .int, 2) := by decide +kernel
theorem dX8_init_10 : decode cX8_init 10 = .ok (.putfield 7, 3) := by decide +kernel
theorem dX8_init_13 : decode cX8_init 13 = .ok (.aload_n 0, 1) := by decide +kernel
theorem dX8_init_14 : decode cX8_init 14 = .ok (.sipush 481, 3) := by decide +kernel
theorem dX8_init_17 : decode cX8_init 17 = .ok (.newarray .int, 2) := by decide +kernel
theorem dX8_init_19 : decode cX8_init 19 = .ok (.putfield 13, 3) := by decide +kernel
theorem dX8_init_22 : decode cX8_init 22 = .ok (.aload_n 0, 1) := by decide +kernel
theorem dX8_init_23 : decode cX8_init 23 = .ok (.sipush 481, 3) := by decide +kernel
theorem dX8_init_26 : decode cX8_init 26 = .ok (.newarray .int, 2) := by decide +kernel
theorem dX8_init_28 : decode cX8_init 28 = .ok (.putfield 16, 3) := by decide +kernel
theorem dX8_init_31 : decode cX8_init 31 = .ok (.aload_n 0, 1) := by decide +kernel
theorem dX8_init_32 : decode cX8_init 32 = .ok (.sipush 294, 3) := by decide +kernel
theorem dX8_init_35 : decode cX8_init 35 = .ok (.newarray .int, 2) := by decide +kernel
theorem dX8_init_37 : decode cX8_init 37 = .ok (.putfield 19, 3) := by decide +kernel
theorem dX8_init_40 : decode cX8_init 40 = .ok (.aload_n 0, 1) := by decide +kernel
theorem dX8_init_41 : decode cX8_init 41 = .ok (.bipush 7, 2) := by decide +kernel
theorem dX8_init_43 : decode cX8_init 43 = .ok (.newarray .int, 2) := by decide +kernel
theorem dX8_init_45 : decode cX8_init 45 = .ok (.putfield 22, 3) := by decide +kernel
theorem dX8_init_48 : decode cX8_init 48 = .ok (.aload_n 0, 1) := by decide +kernel
theorem dX8_init_49 : decode cX8_init 49 = .ok (.bipush 124, 2) := by decide +kernel
theorem dX8_init_51 : decode cX8_init 51 = .ok (.newarray .int, 2) := by decide +kernel
theorem dX8_init_53 : decode cX8_init 53 = .ok (.putfield 25, 3) := by decide +kernel
theorem dX8_init_56 : decode cX8_init 56 = .ok (.aload_n 0, 1) := by decide +kernel
theorem dX8_init_57 : decode cX8_init 57 = .ok (.sipush 128, 3) := by decide +kernel
theorem dX8_init_60 : decode cX8_init 60 = .ok (.newarray .int, 2) := by decide +kernel
theorem dX8_init_62 : decode cX8_init 62 = .ok (.putfield 28, 3) := by decide +kernel
theorem dX8_init_65 : decode cX8_init 65 = .ok (.aload_n 0, 1) := by decide +kernel
theorem dX8_init_66 : decode cX8_init 66 = .ok (.bipush 64, 2) := by decide +kernel
theorem dX8_init_68 : decode cX8_init 68 = .ok (.newarray .int, 2) := by decide +kernel
theorem dX8_init_70 : decode cX8_init 70 = .ok (.putfield 31, 3) := by decide +kernel
theorem dX8_init_73 : decode cX8_init 73 = .ok (.aload_n 0, 1) := by decide +kernel
theorem dX8_init_74 : decode cX8_init 74 = .ok (.bipush 30, 2) := by decide +kernel
theorem dX8_init_76 : decode cX8_init 76 = .ok (.newarray .int, 2) := by decide +kernel
theorem dX8_init_78 : decode cX8_init 78 = .ok (.putfield 34, 3) := by decide +kernel
theorem dX8_init_81 : decode cX8_init 81 = .ok (.aload_n 0, 1) := by decide +kernel
theorem dX8_init_82 : decode cX8_init 82 = .ok (.iconst 4, 1) := by decide +kernel
theorem dX8_init_83 : decode cX8_init 83 = .ok (.newarray .int, 2) := by decide +kernel
theorem dX8_init_85 : decode cX8_init 85 = .ok (.putfield 37, 3) := by decide +kernel
theorem dX8_init_88 : decode cX8_init 88 = .ok (.aload_n 0, 1) := by decide +kernel
theorem dX8_init_89 : decode cX8_init 89 = .ok (.iconst 4, 1) := by decide +kernel
theorem dX8_init_90 : decode cX8_init 90 = .ok (.newarray .int, 2) := by decide +kernel
theorem dX8_init_92 : decode cX8_init 92 = .ok (.putfield 40, 3) := by decide +kernel
theorem dX8_init_95 : decode cX8_init 95 = .ok (.aload_n 0, 1) := by decide +kernel
theorem dX8_init_96 : decode cX8_init 96 = .ok (.bipush 96, 2) := by decide +kernel
theorem dX8_init_98 : decode cX8_init 98 = .ok (.newarray .int, 2) := by decide +kernel
theorem dX8_init_100 : decode cX8_init 100 = .ok (.putfield 43, 3) := by decide +kernel
theorem dX8_init_103 : decode cX8_init 103 = .ok (.aload_n 0, 1) := by decide +kernel
theorem dX8_init_104 : decode cX8_init 104 = .ok (.bipush 24, 2) := by decide +kernel
theorem dX8_init_106 : decode cX8_init 106 = .ok (.newarray .int, 2) := by decide +kernel
theorem dX8_init_108 : decode cX8_init 108 = .ok (.putfield 46, 3) := by decide +kernel
theorem dX8_init_111 : decode cX8_init 111 = .ok (.aload_n 0, 1) := by decide +kernel
theorem dX8_init_112 : decode cX8_init 112 = .ok (.getfield 7, 3) := by decide +kernel
theorem dX8_init_115 : decode cX8_init 115 = .ok (.bipush 6, 2) := by decide +kernel
theorem dX8_init_117 : decode cX8_init 117 = .ok (.iconst 1, 1) := by decide +kernel
theorem dX8_init_118 : decode cX8_init 118 = .ok (.iastore, 1) := by decide +kernel
theorem dX8_init_119 : decode cX8_init 119 = .ok (.return_, 1) := by decide +kernel
theorem dX8_error_0 : decode cX8_error 0 = .ok (.aload_n 0, 1) := by decide +kernel
theorem dX8_error_1 : decode cX8_error 1 = .ok (.getfield 22, 3) := by decide +kernel
theorem dX8_error_4 : decode cX8_error 4 = .ok (.iload_n 1, 1) := by decide +kernel
theorem dX8_error_5 : decode cX8_error 5 = .ok (.dup2, 1) := by decide +kernel
theorem dX8_error_6 : decode cX8_error 6 = .ok (.iaload, 1) := by decide +kernel
theorem dX8_error_7 : decode cX8_error 7 = .ok (.iconst 1, 1) := by decide +kernel
theorem dX8_error_8 : decode cX8_error 8 = .ok (.iadd, 1) := by decide +kernel
theorem dX8_error_9 : decode cX8_error 9 = .ok (.iastore, 1) := by decide +kernel
theorem dX8_error_10 : decode cX8_error 10 = .ok (.ldc 49, 2) := by decide +kernel
theorem dX8_error_12 : decode cX8_error 12 = .ok (.iload_n 1, 1) := by decide +kernel
theorem dX8_error_13 : decode cX8_error 13 = .ok (.isub, 1) := by decide +kernel
theorem dX8_error_14 : decode cX8_error 14 = .ok (.ireturn, 1) := by decide +kernel
theorem dX8_in_0 : decode cX8_in 0 = .ok (.iload_n 0, 1) := by decide +kernel
theorem dX8_in_1 : decode cX8_in 1 = .ok (.iload_n 1, 1) := by decide +kernel
theorem dX8_in_2 : decode cX8_in 2 = .ok (.if_icmp .lt 12, 3) := by decide +kernel
theorem dX8_in_5 : decode cX8_in 5 = .ok (.iload_n 0, 1) := by decide +kernel
theorem dX8_in_6 : decode cX8_in 6 = .ok (.iload_n 2, 1) := by decide +kernel
theorem dX8_in_7 : decode cX8_in 7 = .ok (.if_icmp .gt 7, 3) := by decide +kernel
theorem dX8_in_10 : decode cX8_in 10 = .ok (.iconst 1, 1) := by decide +kernel
theorem dX8_in_11 : decode cX8_in 11 = .ok (.goto 4, 3) := by decide +kernel
theorem dX8_in_14 : decode cX8_in 14 = .ok (.iconst 0, 1) := by decide +kernel
theorem dX8_in_15 : decode cX8_in 15 = .ok (.ireturn, 1) := by decide +kernel
theorem dX8_held_0 : decode cX8_held 0 = .ok (.iload_n 0, 1) := by decide +kernel
theorem dX8_held_1 : decode cX8_held 1 = .ok (.iload_n 1, 1) := by decide +kernel
theorem dX8_held_2 : decode cX8_held 2 = .ok (.if_icmp .ge 7, 3) := by decide +kernel
theorem dX8_held_5 : decode cX8_held 5 = .ok (.iload_n 1, 1) := by decide +kernel
theorem dX8_held_6 : decode cX8_held 6 = .ok (.goto 13, 3) := by decide +kernel
theorem dX8_held_9 : decode cX8_held 9 = .ok (.iload_n 0, 1) := by decide +kernel
theorem dX8_held_10 : decode cX8_held 10 = .ok (.iload_n 2, 1) := by decide +kernel
theorem dX8_held_11 : decode cX8_held 11 = .ok (.if_icmp .le 7, 3) := by decide +kernel
theorem dX8_held_14 : decode cX8_held 14 = .ok (.iload_n 2, 1) := by decide +kernel
theorem dX8_held_15 : decode cX8_held 15 = .ok (.goto 4, 3) := by decide +kernel
theorem dX8_held_18 : decode cX8_held 18 = .ok (.iload_n 0, 1) := by decide +kernel
theorem dX8_held_19 : decode cX8_held 19 = .ok (.ireturn, 1) := by decide +kernel
theorem dX8_carry_0 : decode cX8_carry 0 = .ok (.iconst 0, 1) := by decide +kernel
theorem dX8_carry_1 : decode cX8_carry 1 = .ok (.istore_n 2, 1) := by decide +kernel
theorem dX8_carry_2 : decode cX8_carry 2 = .ok (.iload_n 2, 1) := by decide +kernel
theorem dX8_carry_3 : decode cX8_carry 3 = .ok (.sipush 481, 3) := by decide +kernel
theorem dX8_carry_6 : decode cX8_carry 6 = .ok (.if_icmp .ge 15, 3) := by decide +kernel
theorem dX8_carry_9 : decode cX8_carry 9 = .ok (.aload_n 1, 1) := by decide +kernel
theorem dX8_carry_10 : decode cX8_carry 10 = .ok (.iload_n 2, 1) := by decide +kernel
theorem dX8_carry_11 : decode cX8_carry 11 = .ok (.aload_n 0, 1) := by decide +kernel
theorem dX8_carry_12 : decode cX8_carry 12 = .ok (.iload_n 2, 1) := by decide +kernel
theorem dX8_carry_13 : decode cX8_carry 13 = .ok (.iaload, 1) := by decide +kernel
theorem dX8_carry_14 : decode cX8_carry 14 = .ok (.iastore, 1) := by decide +kernel
theorem dX8_carry_15 : decode cX8_carry 15 = .ok (.iinc 2 1, 3) := by decide +kernel
theorem dX8_carry_18 : decode cX8_carry 18 = .ok (.goto (-16), 3) := by decide +kernel
theorem dX8_carry_21 : decode cX8_carry 21 = .ok (.return_, 1) := by decide +kernel
theorem dX8_layDown_0 : decode cX8_layDown 0 = .ok (.iconst 0, 1) := by decide +kernel
theorem dX8_layDown_1 : decode cX8_layDown 1 = .ok (.istore_n 2, 1) := by decide +kernel
theorem dX8_layDown_2 : decode cX8_layDown 2 = .ok (.iload_n 2, 1) := by decide +kernel
theorem dX8_layDown_3 : decode cX8_layDown 3 = .ok (.sipush 147, 3) := by decide +kernel
theorem dX8_layDown_6 : decode cX8_layDown 6 = .ok (.if_icmp .ge 27, 3) := by decide +kernel
theorem dX8_layDown_9 : decode cX8_layDown 9 = .ok (.aload_n 0, 1) := by decide +kernel
theorem dX8_layDown_10 : decode cX8_layDown 10 = .ok (.getfield 19, 3) := by decide +kernel
theorem dX8_layDown_13 : decode cX8_layDown 13 = .ok (.sipush 147, 3) := by decide +kernel
theorem dX8_layDown_16 : decode cX8_layDown 16 = .ok (.iload_n 1, 1) := by decide +kernel
theorem dX8_layDown_17 : decode cX8_layDown 17 = .ok (.imul, 1) := by decide +kernel
theorem dX8_layDown_18 : decode cX8_layDown 18 = .ok (.iload_n 2, 1) := by decide +kernel
theorem dX8_layDown_19 : decode cX8_layDown 19 = .ok (.iadd, 1) := by decide +kernel
theorem dX8_layDown_20 : decode cX8_layDown 20 = .ok (.aload_n 0, 1) := by decide +kernel
theorem dX8_layDown_21 : decode cX8_layDown 21 = .ok (.getfield 7, 3) := by decide +kernel
theorem dX8_layDown_24 : decode cX8_layDown 24 = .ok (.iload_n 2, 1) := by decide +kernel
theorem dX8_layDown_25 : decode cX8_layDown 25 = .ok (.iaload, 1) := by decide +kernel
theorem dX8_layDown_26 : decode cX8_layDown 26 = .ok (.iastore, 1) := by decide +kernel
theorem dX8_layDown_27 : decode cX8_layDown 27 = .ok (.iinc 2 1, 3) := by decide +kernel
theorem dX8_layDown_30 : decode cX8_layDown 30 = .ok (.goto (-28), 3) := by decide +kernel
theorem dX8_layDown_33 : decode cX8_layDown 33 = .ok (.return_, 1) := by decide +kernel
theorem dX8_layBack_0 : decode cX8_layBack 0 = .ok (.iconst 0, 1) := by decide +kernel
theorem dX8_layBack_1 : decode cX8_layBack 1 = .ok (.istore_n 2, 1) := by decide +kernel
theorem dX8_layBack_2 : decode cX8_layBack 2 = .ok (.iload_n 2, 1) := by decide +kernel
theorem dX8_layBack_3 : decode cX8_layBack 3 = .ok (.sipush 147, 3) := by decide +kernel
theorem dX8_layBack_6 : decode cX8_layBack 6 = .ok (.if_icmp .ge 27, 3) := by decide +kernel
theorem dX8_layBack_9 : decode cX8_layBack 9 = .ok (.aload_n 0, 1) := by decide +kernel
theorem dX8_layBack_10 : decode cX8_layBack 10 = .ok (.getfield 7, 3) := by decide +kernel
theorem dX8_layBack_13 : decode cX8_layBack 13 = .ok (.iload_n 2, 1) := by decide +kernel
theorem dX8_layBack_14 : decode cX8_layBack 14 = .ok (.aload_n 0, 1) := by decide +kernel
theorem dX8_layBack_15 : decode cX8_layBack 15 = .ok (.getfield 19, 3) := by decide +kernel
theorem dX8_layBack_18 : decode cX8_layBack 18 = .ok (.sipush 147, 3) := by decide +kernel
theorem dX8_layBack_21 : decode cX8_layBack 21 = .ok (.iload_n 1, 1) := by decide +kernel
theorem dX8_layBack_22 : decode cX8_layBack 22 = .ok (.imul, 1) := by decide +kernel
theorem dX8_layBack_23 : decode cX8_layBack 23 = .ok (.iload_n 2, 1) := by decide +kernel
theorem dX8_layBack_24 : decode cX8_layBack 24 = .ok (.iadd, 1) := by decide +kernel
theorem dX8_layBack_25 : decode cX8_layBack 25 = .ok (.iaload, 1) := by decide +kernel
theorem dX8_layBack_26 : decode cX8_layBack 26 = .ok (.iastore, 1) := by decide +kernel
theorem dX8_layBack_27 : decode cX8_layBack 27 = .ok (.iinc 2 1, 3) := by decide +kernel
theorem dX8_layBack_30 : decode cX8_layBack 30 = .ok (.goto (-28), 3) := by decide +kernel
theorem dX8_layBack_33 : decode cX8_layBack 33 = .ok (.return_, 1) := by decide +kernel
theorem dX8_isCell_0 : decode cX8_isCell 0 = .ok (.iload_n 0, 1) := by decide +kernel
theorem dX8_isCell_1 : decode cX8_isCell 1 = .ok (.iconst 0, 1) := by decide +kernel
theorem dX8_isCell_2 : decode cX8_isCell 2 = .ok (.bipush 63, 2) := by decide +kernel
theorem dX8_isCell_4 : decode cX8_isCell 4 = .ok (.invokestatic 50, 3) := by decide +kernel
theorem dX8_isCell_7 : decode cX8_isCell 7 = .ok (.ireturn, 1) := by decide +kernel
theorem dX8_isShip_0 : decode cX8_isShip 0 = .ok (.iload_n 1, 1) := by decide +kernel
theorem dX8_isShip_1 : decode cX8_isShip 1 = .ok (.iconst 0, 1) := by decide +kernel
theorem dX8_isShip_2 : decode cX8_isShip 2 = .ok (.aload_n 0, 1) := by decide +kernel
theorem dX8_isShip_3 : decode cX8_isShip 3 = .ok (.getfield 7, 3) := by decide +kernel
theorem dX8_isShip_6 : decode cX8_isShip 6 = .ok (.iconst 0, 1) := by decide +kernel
theorem dX8_isShip_7 : decode cX8_isShip 7 = .ok (.iaload, 1) := by decide +kernel
theorem dX8_isShip_8 : decode cX8_isShip 8 = .ok (.iconst 1, 1) := by decide +kernel
theorem dX8_isShip_9 : decode cX8_isShip 9 = .ok (.isub, 1) := by decide +kernel
theorem dX8_isShip_10 : decode cX8_isShip 10 = .ok (.invokestatic 50, 3) := by decide +kernel
theorem dX8_isShip_13 : decode cX8_isShip 13 = .ok (.ireturn, 1) := by decide +kernel
theorem dX8_isKnot_0 : decode cX8_isKnot 0 = .ok (.aload_n 0, 1) := by decide +kernel
theorem dX8_isKnot_1 : decode cX8_isKnot 1 = .ok (.iload_n 1, 1) := by decide +kernel
theorem dX8_isKnot_2 : decode cX8_isKnot 2 = .ok (.invokevirtual 54, 3) := by decide +kernel
theorem dX8_isKnot_5 : decode cX8_isKnot 5 = .ok (.ifCond .eq 16, 3) := by decide +kernel
theorem dX8_isKnot_8 : decode cX8_isKnot 8 = .ok (.iload_n 2, 1) := by decide +kernel
theorem dX8_isKnot_9 : decode cX8_isKnot 9 = .ok (.iconst 0, 1) := by decide +kernel
theorem dX8_isKnot_10 : decode cX8_isKnot 10 = .ok (.iconst 2, 1) := by decide +kernel
theorem dX8_isKnot_11 : decode cX8_isKnot 11 = .ok (.invokestatic 50, 3) := by decide +kernel
theorem dX8_isKnot_14 : decode cX8_isKnot 14 = .ok (.ifCond .eq 7, 3) := by decide +kernel
theorem dX8_isKnot_17 : decode cX8_isKnot 17 = .ok (.iconst 1, 1) := by decide +kernel
theorem dX8_isKnot_18 : decode cX8_isKnot 18 = .ok (.goto 4, 3) := by decide +kernel
theorem dX8_isKnot_21 : decode cX8_isKnot 21 = .ok (.iconst 0, 1) := by decide +kernel
theorem dX8_isKnot_22 : decode cX8_isKnot 22 = .ok (.ireturn, 1) := by decide +kernel
theorem dX8_of_0 : decode cX8_of 0 = .ok (.aload_n 0, 1) := by decide +kernel
theorem dX8_of_1 : decode cX8_of 1 = .ok (.getfield 7, 3) := by decide +kernel
theorem dX8_of_4 : decode cX8_of 4 = .ok (.bipush 72, 2) := by decide +kernel
theorem dX8_of_6 : decode cX8_of 6 = .ok (.iconst 3, 1) := by decide +kernel
theorem dX8_of_7 : decode cX8_of 7 = .ok (.iload_n 1, 1) := by decide +kernel
theorem dX8_of_8 : decode cX8_of 8 = .ok (.imul, 1) := by decide +kernel
theorem dX8_of_9 : decode cX8_of 9 = .ok (.iadd, 1) := by decide +kernel
theorem dX8_of_10 : decode cX8_of 10 = .ok (.iload_n 2, 1) := by decide +kernel
theorem dX8_of_11 : decode cX8_of 11 = .ok (.iadd, 1) := by decide +kernel
theorem dX8_of_12 : decode cX8_of 12 = .ok (.iaload, 1) := by decide +kernel
theorem dX8_of_13 : decode cX8_of 13 = .ok (.ireturn, 1) := by decide +kernel
theorem dX8_lays1_0 : decode cX8_lays1 0 = .ok (.aload_n 0, 1) := by decide +kernel
theorem dX8_lays1_1 : decode cX8_lays1 1 = .ok (.getfield 7, 3) := by decide +kernel
theorem dX8_lays1_4 : decode cX8_lays1 4 = .ok (.bipush 72, 2) := by decide +kernel
theorem dX8_lays1_6 : decode cX8_lays1 6 = .ok (.iconst 3, 1) := by decide +kernel
theorem dX8_lays1_7 : decode cX8_lays1 7 = .ok (.iload_n 1, 1) := by decide +kernel
theorem dX8_lays1_8 : decode cX8_lays1 8 = .ok (.imul, 1) := by decide +kernel
theorem dX8_lays1_9 : decode cX8_lays1 9 = .ok (.iadd, 1) := by decide +kernel
theorem dX8_lays1_10 : decode cX8_lays1 10 = .ok (.iload_n 2, 1) := by decide +kernel
theorem dX8_lays1_11 : decode cX8_lays1 11 = .ok (.iadd, 1) := by decide +kernel
theorem dX8_lays1_12 : decode cX8_lays1 12 = .ok (.iload_n 3, 1) := by decide +kernel
theorem dX8_lays1_13 : decode cX8_lays1 13 = .ok (.iastore, 1) := by decide +kernel
theorem dX8_lays1_14 : decode cX8_lays1 14 = .ok (.return_, 1) := by decide +kernel
theorem dX8_its_0 : decode cX8_its 0 = .ok (.aload_n 0, 1) := by decide +kernel
theorem dX8_its_1 : decode cX8_its 1 = .ok (.getfield 7, 3) := by decide +kernel
theorem dX8_its_4 : decode cX8_its 4 = .ok (.bipush 87, 2) := by decide +kernel
theorem dX8_its_6 : decode cX8_its 6 = .ok (.iconst 4, 1) := by decide +kernel
theorem dX8_its_7 : decode cX8_its 7 = .ok (.iload_n 1, 1) := by decide +kernel
theorem dX8_its_8 : decode cX8_its 8 = .ok (.imul, 1) := by decide +kernel
theorem dX8_its_9 : decode cX8_its 9 = .ok (.iadd, 1) := by decide +kernel
theorem dX8_its_10 : decode cX8_its 10 = .ok (.iload_n 2, 1) := by decide +kernel
theorem dX8_its_11 : decode cX8_its 11 = .ok (.iadd, 1) := by decide +kernel
theorem dX8_its_12 : decode cX8_its 12 = .ok (.iaload, 1) := by decide +kernel
theorem dX8_its_13 : decode cX8_its 13 = .ok (.ireturn, 1) := by decide +kernel
theorem dX8_isTied_0 : decode cX8_isTied 0 = .ok (.aload_n 0, 1) := by decide +kernel
theorem dX8_isTied_1 : decode cX8_isTied 1 = .ok (.iload_n 1, 1) := by decide +kernel
theorem dX8_isTied_2 : decode cX8_isTied 2 = .ok (.iconst 3, 1) := by decide +kernel
theorem dX8_isTied_3 : decode cX8_isTied 3 = .ok (.invokevirtual 58, 3) := by decide +kernel
theorem dX8_isTied_6 : decode cX8_isTied 6 = .ok (.iconst (-1), 1) := by decide +kernel
theorem dX8_isTied_7 : decode cX8_isTied 7 = .ok (.if_icmp .ne 7, 3) := by decide +kernel
theorem dX8_isTied_10 : decode cX8_isTied 10 = .ok (.iconst 1, 1) := by decide +kernel
theorem dX8_isTied_11 : decode cX8_isTied 11 = .ok (.goto 4, 3) := by decide +kernel
theorem dX8_isTied_14 : decode cX8_isTied 14 = .ok (.iconst 0, 1) := by decide +kernel
theorem dX8_isTied_15 : decode cX8_isTied 15 = .ok (.ireturn, 1) := by decide +kernel
theorem dX8_change1_0 : decode cX8_change1 0 = .ok (.aload_n 0, 1) := by decide +kernel
theorem dX8_change1_1 : decode cX8_change1 1 = .ok (.getfield 7, 3) := by decide +kernel
theorem dX8_change1_4 : decode cX8_change1 4 = .ok (.iload_n 1, 1) := by decide +kernel
theorem dX8_change1_5 : decode cX8_change1 5 = .ok (.iaload, 1) := by decide +kernel
theorem dX8_change1_6 : decode cX8_change1 6 = .ok (.istore_n 3, 1) := by decide +kernel
theorem dX8_change1_7 : decode cX8_change1 7 = .ok (.aload_n 0, 1) := by decide +kernel
theorem dX8_change1_8 : decode cX8_change1 8 = .ok (.getfield 7, 3) := by decide +kernel
theorem dX8_change1_11 : decode cX8_change1 11 = .ok (.iload_n 1, 1) := by decide +kernel
theorem dX8_change1_12 : decode cX8_change1 12 = .ok (.iload_n 2, 1) := by decide +kernel
theorem dX8_change1_13 : decode cX8_change1 13 = .ok (.iastore, 1) := by decide +kernel
theorem dX8_change1_14 : decode cX8_change1 14 = .ok (.iload_n 3, 1) := by decide +kernel
theorem dX8_change1_15 : decode cX8_change1 15 = .ok (.ireturn, 1) := by decide +kernel
theorem dX8_isDay_0 : decode cX8_isDay 0 = .ok (.aload_n 0, 1) := by decide +kernel
theorem dX8_isDay_1 : decode cX8_isDay 1 = .ok (.getfield 7, 3) := by decide +kernel
theorem dX8_isDay_4 : decode cX8_isDay 4 = .ok (.iconst 1, 1) := by decide +kernel
theorem dX8_isDay_5 : decode cX8_isDay 5 = .ok (.iaload, 1) := by decide +kernel
theorem dX8_isDay_6 : decode cX8_isDay 6 = .ok (.bipush 24, 2) := by decide +kernel
theorem dX8_isDay_8 : decode cX8_isDay 8 = .ok (.irem, 1) := by decide +kernel
theorem dX8_isDay_9 : decode cX8_isDay 9 = .ok (.bipush 6, 2) := by decide +kernel
theorem dX8_isDay_11 : decode cX8_isDay 11 = .ok (.bipush 17, 2) := by decide +kernel
theorem dX8_isDay_13 : decode cX8_isDay 13 = .ok (.invokestatic 50, 3) := by decide +kernel
theorem dX8_isDay_16 : decode cX8_isDay 16 = .ok (.ireturn, 1) := by decide +kernel
theorem dX8_feed_0 : decode cX8_feed 0 = .ok (.iload_n 3, 1) := by decide +kernel
theorem dX8_feed_1 : decode cX8_feed 1 = .ok (.iconst 1, 1) := by decide +kernel
theorem dX8_feed_2 : decode cX8_feed 2 = .ok (.bipush 8, 2) := by decide +kernel
theorem dX8_feed_4 : decode cX8_feed 4 = .ok (.invokestatic 50, 3) := by decide +kernel
theorem dX8_feed_7 : decode cX8_feed 7 = .ok (.ifCond .ne 9, 3) := by decide +kernel
theorem dX8_feed_10 : decode cX8_feed 10 = .ok (.aload_n 0, 1) := by decide +kernel
theorem dX8_feed_11 : decode cX8_feed 11 = .ok (.iconst 1, 1) := by decide +kernel
theorem dX8_feed_12 : decode cX8_feed 12 = .ok (.invokevirtual 62, 3) := by decide +kernel
theorem dX8_feed_15 : decode cX8_feed 15 = .ok (.ireturn, 1) := by decide +kernel
theorem dX8_feed_16 : decode cX8_feed 16 = .ok (.aload_n 0, 1) := by decide +kernel
theorem dX8_feed_17 : decode cX8_feed 17 = .ok (.getfield 7, 3) := by decide +kernel
theorem dX8_feed_20 : decode cX8_feed 20 = .ok (.iconst 4, 1) := by decide +kernel
theorem dX8_feed_21 : decode cX8_feed 21 = .ok (.iaload, 1) := by decide +kernel
theorem dX8_feed_22 : decode cX8_feed 22 = .ok (.iload_n 3, 1) := by decide +kernel
theorem dX8_feed_23 : decode cX8_feed 23 = .ok (.iadd, 1) := by decide +kernel
theorem dX8_feed_24 : decode cX8_feed 24 = .ok (.bipush 60, 2) := by decide +kernel
theorem dX8_feed_26 : decode cX8_feed 26 = .ok (.if_icmp .le 9, 3) := by decide +kernel
theorem dX8_feed_29 : decode cX8_feed 29 = .ok (.aload_n 0, 1) := by decide +kernel
theorem dX8_feed_30 : decode cX8_feed 30 = .ok (.iconst 4, 1) := by decide +kernel
theorem dX8_feed_31 : decode cX8_feed 31 = .ok (.invokevirtual 62, 3) := by decide +kernel
theorem dX8_feed_34 : decode cX8_feed 34 = .ok (.ireturn, 1) := by decide +kernel
theorem dX8_feed_35 : decode cX8_feed 35 = .ok (.iconst 0, 1) := by decide +kernel
theorem dX8_feed_36 : decode cX8_feed 36 = .ok (.istore 4, 2) := by decide +kernel
theorem dX8_feed_38 : decode cX8_feed 38 = .ok (.iload 4, 2) := by decide +kernel
theorem dX8_feed_40 : decode cX8_feed 40 = .ok (.iload_n 3, 1) := by decide +kernel
theorem dX8_feed_41 : decode cX8_feed 41 = .ok (.if_icmp .ge 46, 3) := by decide +kernel
theorem dX8_feed_44 : decode cX8_feed 44 = .ok (.aload_n 0, 1) := by decide +kernel
theorem dX8_feed_45 : decode cX8_feed 45 = .ok (.getfield 7, 3) := by decide +kernel
theorem dX8_feed_48 : decode cX8_feed 48 = .ok (.sipush 397, 3) := by decide +kernel
theorem dX8_feed_51 : decode cX8_feed 51 = .ok (.aload_n 0, 1) := by decide +kernel
theorem dX8_feed_52 : decode cX8_feed 52 = .ok (.getfield 7, 3) := by decide +kernel
theorem dX8_feed_55 : decode cX8_feed 55 = .ok (.iconst 4, 1) := by decide +kernel
theorem dX8_feed_56 : decode cX8_feed 56 = .ok (.iaload, 1) := by decide +kernel
theorem dX8_feed_57 : decode cX8_feed 57 = .ok (.iadd, 1) := by decide +kernel
theorem dX8_feed_58 : decode cX8_feed 58 = .ok (.lload_n 1, 1) := by decide +kernel
theorem dX8_feed_59 : decode cX8_feed 59 = .ok (.bipush 8, 2) := by decide +kernel
theorem dX8_feed_61 : decode cX8_feed 61 = .ok (.iload 4, 2) := by decide +kernel
theorem dX8_feed_63 : decode cX8_feed 63 = .ok (.imul, 1) := by decide +kernel
theorem dX8_feed_64 : decode cX8_feed 64 = .ok (.lshr, 1) := by decide +kernel
theorem dX8_feed_65 : decode cX8_feed 65 = .ok (.ldc2_w 66, 3) := by decide +kernel
theorem dX8_feed_68 : decode cX8_feed 68 = .ok (.land, 1) := by decide +kernel
theorem dX8_feed_69 : decode cX8_feed 69 = .ok (.l2i, 1) := by decide +kernel
theorem dX8_feed_70 : decode cX8_feed 70 = .ok (.iastore, 1) := by decide +kernel
theorem dX8_feed_71 : decode cX8_feed 71 = .ok (.aload_n 0, 1) := by decide +kernel
theorem dX8_feed_72 : decode cX8_feed 72 = .ok (.getfield 7, 3) := by decide +kernel
theorem dX8_feed_75 : decode cX8_feed 75 = .ok (.iconst 4, 1) := by decide +kernel
theorem dX8_feed_76 : decode cX8_feed 76 = .ok (.dup2, 1) := by decide +kernel
theorem dX8_feed_77 : decode cX8_feed 77 = .ok (.iaload, 1) := by decide +kernel
theorem dX8_feed_78 : decode cX8_feed 78 = .ok (.iconst 1, 1) := by decide +kernel
theorem dX8_feed_79 : decode cX8_feed 79 = .ok (.iadd, 1) := by decide +kernel
theorem dX8_feed_80 : decode cX8_feed 80 = .ok (.iastore, 1) := by decide +kernel
theorem dX8_feed_81 : decode cX8_feed 81 = .ok (.iinc 4 1, 3) := by decide +kernel
theorem dX8_feed_84 : decode cX8_feed 84 = .ok (.goto (-46), 3) := by decide +kernel
theorem dX8_feed_87 : decode cX8_feed 87 = .ok (.aload_n 0, 1) := by decide +kernel
theorem dX8_feed_88 : decode cX8_feed 88 = .ok (.getfield 7, 3) := by decide +kernel
theorem dX8_feed_91 : decode cX8_feed 91 = .ok (.iconst 4, 1) := by decide +kernel
theorem dX8_feed_92 : decode cX8_feed 92 = .ok (.iaload, 1) := by decide +kernel
theorem dX8_feed_93 : decode cX8_feed 93 = .ok (.ireturn, 1) := by decide +kernel
theorem dX8_look_0 : decode cX8_look 0 = .ok (.aload_n 0, 1) := by decide +kernel
theorem dX8_look_1 : decode cX8_look 1 = .ok (.getfield 68, 3) := by decide +kernel
theorem dX8_look_4 : decode cX8_look 4 = .ok (.aload_n 0, 1) := by decide +kernel
theorem dX8_look_5 : decode cX8_look 5 = .ok (.getfield 7, 3) := by decide +kernel
theorem dX8_look_8 : decode cX8_look 8 = .ok (.iconst 4, 1) := by decide +kernel
theorem dX8_look_9 : decode cX8_look 9 = .ok (.iaload, 1) := by decide +kernel
theorem dX8_look_10 : decode cX8_look 10 = .ok (.if_icmp .ge 19, 3) := by decide +kernel
theorem dX8_look_13 : decode cX8_look 13 = .ok (.aload_n 0, 1) := by decide +kernel
theorem dX8_look_14 : decode cX8_look 14 = .ok (.getfield 7, 3) := by decide +kernel
theorem dX8_look_17 : decode cX8_look 17 = .ok (.sipush 397, 3) := by decide +kernel
theorem dX8_look_20 : decode cX8_look 20 = .ok (.aload_n 0, 1) := by decide +kernel
theorem dX8_look_21 : decode cX8_look 21 = .ok (.getfield 68, 3) := by decide +kernel
theorem dX8_look_24 : decode cX8_look 24 = .ok (.iadd, 1) := by decide +kernel
theorem dX8_look_25 : decode cX8_look 25 = .ok (.iaload, 1) := by decide +kernel
theorem dX8_look_26 : decode cX8_look 26 = .ok (.goto 4, 3) := by decide +kernel
theorem dX8_look_29 : decode cX8_look 29 = .ok (.iconst (-1), 1) := by decide +kernel
theorem dX8_look_30 : decode cX8_look 30 = .ok (.ireturn, 1) := by decide +kernel
theorem dX8_isName_0 : decode cX8_isName 0 = .ok (.iload_n 1, 1) := by decide +kernel
theorem dX8_isName_1 : decode cX8_isName 1 = .ok (.bipush 109, 2) := by decide +kernel
theorem dX8_isName_3 : decode cX8_isName 3 = .ok (.if_icmp .ne 5, 3) := by decide +kernel
theorem dX8_isName_6 : decode cX8_isName 6 = .ok (.iconst 1, 1) := by decide +kernel
theorem dX8_isName_7 : decode cX8_isName 7 = .ok (.ireturn, 1) := by decide +kernel
theorem dX8_isName_8 : decode cX8_isName 8 = .ok (.aload_n 0, 1) := by decide +kernel
theorem dX8_isName_9 : decode cX8_isName 9 = .ok (.getfield 72, 3) := by decide +kernel
theorem dX8_isName_12 : decode cX8_isName 12 = .ok (.ifCond .ne 23, 3) := by decide +kernel
theorem dX8_isName_15 : decode cX8_isName 15 = .ok (.iload_n 1, 1) := by decide +kernel
theorem dX8_isName_16 : decode cX8_isName 16 = .ok (.bipush 104, 2) := by decide +kernel
theorem dX8_isName_18 : decode cX8_isName 18 = .ok (.if_icmp .eq 9, 3) := by decide +kernel
theorem dX8_isName_21 : decode cX8_isName 21 = .ok (.iload_n 1, 1) := by decide +kernel
theorem dX8_isName_22 : decode cX8_isName 22 = .ok (.bipush 119, 2) := by decide +kernel
theorem dX8_isName_24 : decode cX8_isName 24 = .ok (.if_icmp .ne 7, 3) := by decide +kernel
theorem dX8_isName_27 : decode cX8_isName 27 = .ok (.iconst 1, 1) := by decide +kernel
theorem dX8_isName_28 : decode cX8_isName 28 = .ok (.goto 24, 3) := by decide +kernel
theorem dX8_isName_31 : decode cX8_isName 31 = .ok (.iconst 0, 1) := by decide +kernel
theorem dX8_isName_32 : decode cX8_isName 32 = .ok (.goto 20, 3) := by decide +kernel
theorem dX8_isName_35 : decode cX8_isName 35 = .ok (.iload_n 1, 1) := by decide +kernel
theorem dX8_isName_36 : decode cX8_isName 36 = .ok (.bipush 107, 2) := by decide +kernel
theorem dX8_isName_38 : decode cX8_isName 38 = .ok (.if_icmp .eq 9, 3) := by decide +kernel
theorem dX8_isName_41 : decode cX8_isName 41 = .ok (.iload_n 1, 1) := by decide +kernel
theorem dX8_isName_42 : decode cX8_isName 42 = .ok (.bipush 110, 2) := by decide +kernel
theorem dX8_isName_44 : decode cX8_isName 44 = .ok (.if_icmp .ne 7, 3) := by decide +kernel
theorem dX8_isName_47 : decode cX8_isName 47 = .ok (.iconst 1, 1) := by decide +kernel
theorem dX8_isName_48 : decode cX8_isName 48 = .ok (.goto 4, 3) := by decide +kernel
theorem dX8_isName_51 : decode cX8_isName 51 = .ok (.iconst 0, 1) := by decide +kernel
theorem dX8_isName_52 : decode cX8_isName 52 = .ok (.ireturn, 1) := by decide +kernel
theorem dX8_step1_0 : decode cX8_step1 0 = .ok (.aload_n 0, 1) := by decide +kernel
theorem dX8_step1_1 : decode cX8_step1 1 = .ok (.getfield 25, 3) := by decide +kernel
theorem dX8_step1_4 : decode cX8_step1 4 = .ok (.iconst 2, 1) := by decide +kernel
theorem dX8_step1_5 : decode cX8_step1 5 = .ok (.aload_n 0, 1) := by decide +kernel
theorem dX8_step1_6 : decode cX8_step1 6 = .ok (.getfield 75, 3) := by decide +kernel
theorem dX8_step1_9 : decode cX8_step1 9 = .ok (.imul, 1) := by decide +kernel
theorem dX8_step1_10 : decode cX8_step1 10 = .ok (.iload_n 1, 1) := by decide +kernel
theorem dX8_step1_11 : decode cX8_step1 11 = .ok (.iastore, 1) := by decide +kernel
theorem dX8_step1_12 : decode cX8_step1 12 = .ok (.aload_n 0, 1) := by decide +kernel
theorem dX8_step1_13 : decode cX8_step1 13 = .ok (.getfield 25, 3) := by decide +kernel
theorem dX8_step1_16 : decode cX8_step1 16 = .ok (.iconst 2, 1) := by decide +kernel
theorem dX8_step1_17 : decode cX8_step1 17 = .ok (.aload_n 0, 1) := by decide +kernel
theorem dX8_step1_18 : decode cX8_step1 18 = .ok (.getfield 75, 3) := by decide +kernel
theorem dX8_step1_21 : decode cX8_step1 21 = .ok (.imul, 1) := by decide +kernel
theorem dX8_step1_22 : decode cX8_step1 22 = .ok (.iconst 1, 1) := by decide +kernel
theorem dX8_step1_23 : decode cX8_step1 23 = .ok (.iadd, 1) := by decide +kernel
theorem dX8_step1_24 : decode cX8_step1 24 = .ok (.iload_n 2, 1) := by decide +kernel
theorem dX8_step1_25 : decode cX8_step1 25 = .ok (.iastore, 1) := by decide +kernel
theorem dX8_step1_26 : decode cX8_step1 26 = .ok (.aload_n 0, 1) := by decide +kernel
theorem dX8_step1_27 : decode cX8_step1 27 = .ok (.dup, 1) := by decide +kernel
theorem dX8_step1_28 : decode cX8_step1 28 = .ok (.getfield 75, 3) := by decide +kernel
theorem dX8_step1_31 : decode cX8_step1 31 = .ok (.iconst 1, 1) := by decide +kernel
theorem dX8_step1_32 : decode cX8_step1 32 = .ok (.iadd, 1) := by decide +kernel
theorem dX8_step1_33 : decode cX8_step1 33 = .ok (.putfield 75, 3) := by decide +kernel
theorem dX8_step1_36 : decode cX8_step1 36 = .ok (.return_, 1) := by decide +kernel
theorem dX8_whole_0 : decode cX8_whole 0 = .ok (.aload_n 0, 1) := by decide +kernel
theorem dX8_whole_1 : decode cX8_whole 1 = .ok (.invokevirtual 78, 3) := by decide +kernel
theorem dX8_whole_4 : decode cX8_whole 4 = .ok (.ifCond .ne 5, 3) := by decide +kernel
theorem dX8_whole_7 : decode cX8_whole 7 = .ok (.iconst 0, 1) := by decide +kernel
theorem dX8_whole_8 : decode cX8_whole 8 = .ok (.ireturn, 1) := by decide +kernel
theorem dX8_whole_9 : decode cX8_whole 9 = .ok (.aload_n 0, 1) := by decide +kernel
theorem dX8_whole_10 : decode cX8_whole 10 = .ok (.invokevirtual 82, 3) := by decide +kernel
theorem dX8_whole_13 : decode cX8_whole 13 = .ok (.bipush 124, 2) := by decide +kernel
theorem dX8_whole_15 : decode cX8_whole 15 = .ok (.if_icmp .ne 32, 3) := by decide +kernel
theorem dX8_whole_18 : decode cX8_whole 18 = .ok (.aload_n 0, 1) := by decide +kernel
theorem dX8_whole_19 : decode cX8_whole 19 = .ok (.dup, 1) := by decide +kernel
theorem dX8_whole_20 : decode cX8_whole 20 = .ok (.getfield 68, 3) := by decide +kernel
theorem dX8_whole_23 : decode cX8_whole 23 = .ok (.iconst 1, 1) := by decide +kernel
theorem dX8_whole_24 : decode cX8_whole 24 = .ok (.iadd, 1) := by decide +kernel
theorem dX8_whole_25 : decode cX8_whole 25 = .ok (.putfield 68, 3) := by decide +kernel
theorem dX8_whole_28 : decode cX8_whole 28 = .ok (.aload_n 0, 1) := by decide +kernel
theorem dX8_whole_29 : decode cX8_whole 29 = .ok (.invokevirtual 78, 3) := by decide +kernel
theorem dX8_whole_32 : decode cX8_whole 32 = .ok (.ifCond .ne 5, 3) := by decide +kernel
theorem dX8_whole_35 : decode cX8_whole 35 = .ok (.iconst 0, 1) := by decide +kernel
theorem dX8_whole_36 : decode cX8_whole 36 = .ok (.ireturn, 1) := by decide +kernel
theorem dX8_whole_37 : decode cX8_whole 37 = .ok (.aload_n 0, 1) := by decide +kernel
theorem dX8_whole_38 : decode cX8_whole 38 = .ok (.iconst 3, 1) := by decide +kernel
theorem dX8_whole_39 : decode cX8_whole 39 = .ok (.bipush 124, 2) := by decide +kernel
theorem dX8_whole_41 : decode cX8_whole 41 = .ok (.invokevirtual 86, 3) := by decide +kernel
theorem dX8_whole_44 : decode cX8_whole 44 = .ok (.goto (-35), 3) := by decide +kernel
theorem dX8_whole_47 : decode cX8_whole 47 = .ok (.iconst 1, 1) := by decide +kernel
theorem dX8_whole_48 : decode cX8_whole 48 = .ok (.ireturn, 1) := by decide +kernel
theorem dX8_both_0 : decode cX8_both 0 = .ok (.aload_n 0, 1) := by decide +kernel
theorem dX8_both_1 : decode cX8_both 1 = .ok (.invokevirtual 90, 3) := by decide +kernel
theorem dX8_both_4 : decode cX8_both 4 = .ok (.ifCond .ne 5, 3) := by decide +kernel
theorem dX8_both_7 : decode cX8_both 7 = .ok (.iconst 0, 1) := by decide +kernel
theorem dX8_both_8 : decode cX8_both 8 = .ok (.ireturn, 1) := by decide +kernel
theorem dX8_both_9 : decode cX8_both 9 = .ok (.aload_n 0, 1) := by decide +kernel
theorem dX8_both_10 : decode cX8_both 10 = .ok (.invokevirtual 82, 3) := by decide +kernel
theorem dX8_both_13 : decode cX8_both 13 = .ok (.bipush 38, 2) := by decide +kernel
theorem dX8_both_15 : decode cX8_both 15 = .ok (.if_icmp .ne 32, 3) := by decide +kernel
theorem dX8_both_18 : decode cX8_both 18 = .ok (.aload_n 0, 1) := by decide +kernel
theorem dX8_both_19 : decode cX8_both 19 = .ok (.dup, 1) := by decide +kernel
theorem dX8_both_20 : decode cX8_both 20 = .ok (.getfield 68, 3) := by decide +kernel
theorem dX8_both_23 : decode cX8_both 23 = .ok (.iconst 1, 1) := by decide +kernel
theorem dX8_both_24 : decode cX8_both 24 = .ok (.iadd, 1) := by decide +kernel
theorem dX8_both_25 : decode cX8_both 25 = .ok (.putfield 68, 3) := by decide +kernel
theorem dX8_both_28 : decode cX8_both 28 = .ok (.aload_n 0, 1) := by decide +kernel
theorem dX8_both_29 : decode cX8_both 29 = .ok (.invokevirtual 90, 3) := by decide +kernel
theorem dX8_both_32 : decode cX8_both 32 = .ok (.ifCond .ne 5, 3) := by decide +kernel
theorem dX8_both_35 : decode cX8_both 35 = .ok (.iconst 0, 1) := by decide +kernel
theorem dX8_both_36 : decode cX8_both 36 = .ok (.ireturn, 1) := by decide +kernel
theorem dX8_both_37 : decode cX8_both 37 = .ok (.aload_n 0, 1) := by decide +kernel
theorem dX8_both_38 : decode cX8_both 38 = .ok (.iconst 3, 1) := by decide +kernel
theorem dX8_both_39 : decode cX8_both 39 = .ok (.bipush 38, 2) := by decide +kernel
theorem dX8_both_41 : decode cX8_both 41 = .ok (.invokevirtual 86, 3) := by decide +kernel
theorem dX8_both_44 : decode cX8_both 44 = .ok (.goto (-35), 3) := by decide +kernel
theorem dX8_both_47 : decode cX8_both 47 = .ok (.iconst 1, 1) := by decide +kernel
theorem dX8_both_48 : decode cX8_both 48 = .ok (.ireturn, 1) := by decide +kernel
theorem dX8_compared_0 : decode cX8_compared 0 = .ok (.aload_n 0, 1) := by decide +kernel
theorem dX8_compared_1 : decode cX8_compared 1 = .ok (.invokevirtual 93, 3) := by decide +kernel
theorem dX8_compared_4 : decode cX8_compared 4 = .ok (.ifCond .ne 5, 3) := by decide +kernel
theorem dX8_compared_7 : decode cX8_compared 7 = .ok (.iconst 0, 1) := by decide +kernel
theorem dX8_compared_8 : decode cX8_compared 8 = .ok (.ireturn, 1) := by decide +kernel
theorem dX8_compared_9 : decode cX8_compared 9 = .ok (.aload_n 0, 1) := by decide +kernel
theorem dX8_compared_10 : decode cX8_compared 10 = .ok (.invokevirtual 82, 3) := by decide +kernel
theorem dX8_compared_13 : decode cX8_compared 13 = .ok (.istore_n 1, 1) := by decide +kernel
theorem dX8_compared_14 : decode cX8_compared 14 = .ok (.iload_n 1, 1) := by decide +kernel
theorem dX8_compared_15 : decode cX8_compared 15 = .ok (.bipush 60, 2) := by decide +kernel
theorem dX8_compared_17 : decode cX8_compared 17 = .ok (.if_icmp .eq 17, 3) := by decide +kernel
theorem dX8_compared_20 : decode cX8_compared 20 = .ok (.iload_n 1, 1) := by decide +kernel
theorem dX8_compared_21 : decode cX8_compared 21 = .ok (.bipush 61, 2) := by decide +kernel
theorem dX8_compared_23 : decode cX8_compared 23 = .ok (.if_icmp .eq 11, 3) := by decide +kernel
theorem dX8_compared_26 : decode cX8_compared 26 = .ok (.iload_n 1, 1) := by decide +kernel
theorem dX8_compared_27 : decode cX8_compared 27 = .ok (.bipush 62, 2) := by decide +kernel
theorem dX8_compared_29 : decode cX8_compared 29 = .ok (.if_icmp .eq 5, 3) := by decide +kernel
theorem dX8_compared_32 : decode cX8_compared 32 = .ok (.iconst 1, 1) := by decide +kernel
theorem dX8_compared_33 : decode cX8_compared 33 = .ok (.ireturn, 1) := by decide +kernel
theorem dX8_compared_34 : decode cX8_compared 34 = .ok (.aload_n 0, 1) := by decide +kernel
theorem dX8_compared_35 : decode cX8_compared 35 = .ok (.dup, 1) := by decide +kernel
theorem dX8_compared_36 : decode cX8_compared 36 = .ok (.getfield 68, 3) := by decide +kernel
theorem dX8_compared_39 : decode cX8_compared 39 = .ok (.iconst 1, 1) := by decide +kernel
theorem dX8_compared_40 : decode cX8_compared 40 = .ok (.iadd, 1) := by decide +kernel
theorem dX8_compared_41 : decode cX8_compared 41 = .ok (.putfield 68, 3) := by decide +kernel
theorem dX8_compared_44 : decode cX8_compared 44 = .ok (.aload_n 0, 1) := by decide +kernel
theorem dX8_compared_45 : decode cX8_compared 45 = .ok (.invokevirtual 93, 3) := by decide +kernel
theorem dX8_compared_48 : decode cX8_compared 48 = .ok (.ifCond .ne 5, 3) := by decide +kernel
theorem dX8_compared_51 : decode cX8_compared 51 = .ok (.iconst 0, 1) := by decide +kernel
theorem dX8_compared_52 : decode cX8_compared 52 = .ok (.ireturn, 1) := by decide +kernel
theorem dX8_compared_53 : decode cX8_compared 53 = .ok (.aload_n 0, 1) := by decide +kernel
theorem dX8_compared_54 : decode cX8_compared 54 = .ok (.iconst 3, 1) := by decide +kernel
theorem dX8_compared_55 : decode cX8_compared 55 = .ok (.iload_n 1, 1) := by decide +kernel
theorem dX8_compared_56 : decode cX8_compared 56 = .ok (.invokevirtual 86, 3) := by decide +kernel
theorem dX8_compared_59 : decode cX8_compared 59 = .ok (.iconst 1, 1) := by decide +kernel
theorem dX8_compared_60 : decode cX8_compared 60 = .ok (.ireturn, 1) := by decide +kernel
theorem dX8_sum_0 : decode cX8_sum 0 = .ok (.aload_n 0, 1) := by decide +kernel
theorem dX8_sum_1 : decode cX8_sum 1 = .ok (.invokevirtual 96, 3) := by decide +kernel
theorem dX8_sum_4 : decode cX8_sum 4 = .ok (.ifCond .ne 5, 3) := by decide +kernel
theorem dX8_sum_7 : decode cX8_sum 7 = .ok (.iconst 0, 1) := by decide +kernel
theorem dX8_sum_8 : decode cX8_sum 8 = .ok (.ireturn, 1) := by decide +kernel
theorem dX8_sum_9 : decode cX8_sum 9 = .ok (.aload_n 0, 1) := by decide +kernel
theorem dX8_sum_10 : decode cX8_sum 10 = .ok (.invokevirtual 82, 3) := by decide +kernel
theorem dX8_sum_13 : decode cX8_sum 13 = .ok (.bipush 43, 2) := by decide +kernel
theorem dX8_sum_15 : decode cX8_sum 15 = .ok (.if_icmp .eq 12, 3) := by decide +kernel
theorem dX8_sum_18 : decode cX8_sum 18 = .ok (.aload_n 0, 1) := by decide +kernel
theorem dX8_sum_19 : decode cX8_sum 19 = .ok (.invokevirtual 82, 3) := by decide +kernel
theorem dX8_sum_22 : decode cX8_sum 22 = .ok (.bipush 45, 2) := by decide +kernel
theorem dX8_sum_24 : decode cX8_sum 24 = .ok (.if_icmp .ne 36, 3) := by decide +kernel
theorem dX8_sum_27 : decode cX8_sum 27 = .ok (.aload_n 0, 1) := by decide +kernel
theorem dX8_sum_28 : decode cX8_sum 28 = .ok (.invokevirtual 82, 3) := by decide +kernel
theorem dX8_sum_31 : decode cX8_sum 31 = .ok (.istore_n 1, 1) := by decide +kernel
theorem dX8_sum_32 : decode cX8_sum 32 = .ok (.aload_n 0, 1) := by decide +kernel
theorem dX8_sum_33 : decode cX8_sum 33 = .ok (.dup, 1) := by decide +kernel
theorem dX8_sum_34 : decode cX8_sum 34 = .ok (.getfield 68, 3) := by decide +kernel
theorem dX8_sum_37 : decode cX8_sum 37 = .ok (.iconst 1, 1) := by decide +kernel
theorem dX8_sum_38 : decode cX8_sum 38 = .ok (.iadd, 1) := by decide +kernel
theorem dX8_sum_39 : decode cX8_sum 39 = .ok (.putfield 68, 3) := by decide +kernel
theorem dX8_sum_42 : decode cX8_sum 42 = .ok (.aload_n 0, 1) := by decide +kernel
theorem dX8_sum_43 : decode cX8_sum 43 = .ok (.invokevirtual 96, 3) := by decide +kernel
theorem dX8_sum_46 : decode cX8_sum 46 = .ok (.ifCond .ne 5, 3) := by decide +kernel
theorem dX8_sum_49 : decode cX8_sum 49 = .ok (.iconst 0, 1) := by decide +kernel
