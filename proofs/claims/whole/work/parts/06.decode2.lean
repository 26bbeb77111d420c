theorem dX4_copy_293 : decode cX4_copy 293 = .ok (.iastore, 1) := by decide +kernel
theorem dX4_copy_294 : decode cX4_copy 294 = .ok (.iinc 6 1, 3) := by decide +kernel
theorem dX4_copy_297 : decode cX4_copy 297 = .ok (.goto (-82), 3) := by decide +kernel
theorem dX4_copy_300 : decode cX4_copy 300 = .ok (.aload_n 0, 1) := by decide +kernel
theorem dX4_copy_301 : decode cX4_copy 301 = .ok (.iload_n 1, 1) := by decide +kernel
theorem dX4_copy_302 : decode cX4_copy 302 = .ok (.invokevirtual 100, 3) := by decide +kernel
theorem dX4_copy_305 : decode cX4_copy 305 = .ok (.ireturn, 1) := by decide +kernel
theorem dX4_isTransaction_0 : decode cX4_isTransaction 0 = .ok (.iload_n 1, 1) := by decide +kernel
theorem dX4_isTransaction_1 : decode cX4_isTransaction 1 = .ok (.i2l, 1) := by decide +kernel
theorem dX4_isTransaction_2 : decode cX4_isTransaction 2 = .ok (.lconst 0, 1) := by decide +kernel
theorem dX4_isTransaction_3 : decode cX4_isTransaction 3 = .ok (.aload_n 0, 1) := by decide +kernel
theorem dX4_isTransaction_4 : decode cX4_isTransaction 4 = .ok (.getfield 130, 3) := by decide +kernel
theorem dX4_isTransaction_7 : decode cX4_isTransaction 7 = .ok (.iconst 1, 1) := by decide +kernel
theorem dX4_isTransaction_8 : decode cX4_isTransaction 8 = .ok (.isub, 1) := by decide +kernel
theorem dX4_isTransaction_9 : decode cX4_isTransaction 9 = .ok (.i2l, 1) := by decide +kernel
theorem dX4_isTransaction_10 : decode cX4_isTransaction 10 = .ok (.invokestatic 88, 3) := by decide +kernel
theorem dX4_isTransaction_13 : decode cX4_isTransaction 13 = .ok (.ireturn, 1) := by decide +kernel
theorem dX4_begin_0 : decode cX4_begin 0 = .ok (.iload_n 1, 1) := by decide +kernel
theorem dX4_begin_1 : decode cX4_begin 1 = .ok (.invokestatic 108, 3) := by decide +kernel
theorem dX4_begin_4 : decode cX4_begin 4 = .ok (.ifCond .ne 5, 3) := by decide +kernel
theorem dX4_begin_7 : decode cX4_begin 7 = .ok (.iconst (-1), 1) := by decide +kernel
theorem dX4_begin_8 : decode cX4_begin 8 = .ok (.ireturn, 1) := by decide +kernel
theorem dX4_begin_9 : decode cX4_begin 9 = .ok (.aload_n 0, 1) := by decide +kernel
theorem dX4_begin_10 : decode cX4_begin 10 = .ok (.getfield 7, 3) := by decide +kernel
theorem dX4_begin_13 : decode cX4_begin 13 = .ok (.iload_n 1, 1) := by decide +kernel
theorem dX4_begin_14 : decode cX4_begin 14 = .ok (.baload, 1) := by decide +kernel
theorem dX4_begin_15 : decode cX4_begin 15 = .ok (.ifCond .eq 12, 3) := by decide +kernel
theorem dX4_begin_18 : decode cX4_begin 18 = .ok (.aload_n 0, 1) := by decide +kernel
theorem dX4_begin_19 : decode cX4_begin 19 = .ok (.getfield 13, 3) := by decide +kernel
theorem dX4_begin_22 : decode cX4_begin 22 = .ok (.iload_n 1, 1) := by decide +kernel
theorem dX4_begin_23 : decode cX4_begin 23 = .ok (.baload, 1) := by decide +kernel
theorem dX4_begin_24 : decode cX4_begin 24 = .ok (.ifCond .ne 6, 3) := by decide +kernel
theorem dX4_begin_27 : decode cX4_begin 27 = .ok (.bipush (-3), 2) := by decide +kernel
theorem dX4_begin_29 : decode cX4_begin 29 = .ok (.ireturn, 1) := by decide +kernel
theorem dX4_begin_30 : decode cX4_begin 30 = .ok (.aload_n 0, 1) := by decide +kernel
theorem dX4_begin_31 : decode cX4_begin 31 = .ok (.getfield 130, 3) := by decide +kernel
theorem dX4_begin_34 : decode cX4_begin 34 = .ok (.bipush 60, 2) := by decide +kernel
theorem dX4_begin_36 : decode cX4_begin 36 = .ok (.if_icmp .ne 6, 3) := by decide +kernel
theorem dX4_begin_39 : decode cX4_begin 39 = .ok (.bipush (-4), 2) := by decide +kernel
theorem dX4_begin_41 : decode cX4_begin 41 = .ok (.ireturn, 1) := by decide +kernel
theorem dX4_begin_42 : decode cX4_begin 42 = .ok (.aload_n 0, 1) := by decide +kernel
theorem dX4_begin_43 : decode cX4_begin 43 = .ok (.getfield 35, 3) := by decide +kernel
theorem dX4_begin_46 : decode cX4_begin 46 = .ok (.aload_n 0, 1) := by decide +kernel
theorem dX4_begin_47 : decode cX4_begin 47 = .ok (.getfield 130, 3) := by decide +kernel
theorem dX4_begin_50 : decode cX4_begin 50 = .ok (.iload_n 1, 1) := by decide +kernel
theorem dX4_begin_51 : decode cX4_begin 51 = .ok (.iastore, 1) := by decide +kernel
theorem dX4_begin_52 : decode cX4_begin 52 = .ok (.aload_n 0, 1) := by decide +kernel
theorem dX4_begin_53 : decode cX4_begin 53 = .ok (.dup, 1) := by decide +kernel
theorem dX4_begin_54 : decode cX4_begin 54 = .ok (.getfield 130, 3) := by decide +kernel
theorem dX4_begin_57 : decode cX4_begin 57 = .ok (.iconst 1, 1) := by decide +kernel
theorem dX4_begin_58 : decode cX4_begin 58 = .ok (.iadd, 1) := by decide +kernel
theorem dX4_begin_59 : decode cX4_begin 59 = .ok (.putfield 130, 3) := by decide +kernel
theorem dX4_begin_62 : decode cX4_begin 62 = .ok (.aload_n 0, 1) := by decide +kernel
theorem dX4_begin_63 : decode cX4_begin 63 = .ok (.getfield 130, 3) := by decide +kernel
theorem dX4_begin_66 : decode cX4_begin 66 = .ok (.iconst 1, 1) := by decide +kernel
theorem dX4_begin_67 : decode cX4_begin 67 = .ok (.isub, 1) := by decide +kernel
theorem dX4_begin_68 : decode cX4_begin 68 = .ok (.ireturn, 1) := by decide +kernel
theorem dX4_itemOf_0 : decode cX4_itemOf 0 = .ok (.bipush 8, 2) := by decide +kernel
theorem dX4_itemOf_2 : decode cX4_itemOf 2 = .ok (.iload_n 1, 1) := by decide +kernel
theorem dX4_itemOf_3 : decode cX4_itemOf 3 = .ok (.imul, 1) := by decide +kernel
theorem dX4_itemOf_4 : decode cX4_itemOf 4 = .ok (.istore 4, 2) := by decide +kernel
theorem dX4_itemOf_6 : decode cX4_itemOf 6 = .ok (.iload 4, 2) := by decide +kernel
theorem dX4_itemOf_8 : decode cX4_itemOf 8 = .ok (.bipush 8, 2) := by decide +kernel
theorem dX4_itemOf_10 : decode cX4_itemOf 10 = .ok (.iload_n 1, 1) := by decide +kernel
theorem dX4_itemOf_11 : decode cX4_itemOf 11 = .ok (.imul, 1) := by decide +kernel
theorem dX4_itemOf_12 : decode cX4_itemOf 12 = .ok (.aload_n 0, 1) := by decide +kernel
theorem dX4_itemOf_13 : decode cX4_itemOf 13 = .ok (.getfield 44, 3) := by decide +kernel
theorem dX4_itemOf_16 : decode cX4_itemOf 16 = .ok (.iload_n 1, 1) := by decide +kernel
theorem dX4_itemOf_17 : decode cX4_itemOf 17 = .ok (.iaload, 1) := by decide +kernel
theorem dX4_itemOf_18 : decode cX4_itemOf 18 = .ok (.iadd, 1) := by decide +kernel
theorem dX4_itemOf_19 : decode cX4_itemOf 19 = .ok (.if_icmp .ge 34, 3) := by decide +kernel
theorem dX4_itemOf_22 : decode cX4_itemOf 22 = .ok (.aload_n 0, 1) := by decide +kernel
theorem dX4_itemOf_23 : decode cX4_itemOf 23 = .ok (.getfield 53, 3) := by decide +kernel
theorem dX4_itemOf_26 : decode cX4_itemOf 26 = .ok (.iload 4, 2) := by decide +kernel
theorem dX4_itemOf_28 : decode cX4_itemOf 28 = .ok (.iaload, 1) := by decide +kernel
theorem dX4_itemOf_29 : decode cX4_itemOf 29 = .ok (.iload_n 2, 1) := by decide +kernel
theorem dX4_itemOf_30 : decode cX4_itemOf 30 = .ok (.if_icmp .ne 17, 3) := by decide +kernel
theorem dX4_itemOf_33 : decode cX4_itemOf 33 = .ok (.aload_n 0, 1) := by decide +kernel
theorem dX4_itemOf_34 : decode cX4_itemOf 34 = .ok (.getfield 56, 3) := by decide +kernel
theorem dX4_itemOf_37 : decode cX4_itemOf 37 = .ok (.iload 4, 2) := by decide +kernel
theorem dX4_itemOf_39 : decode cX4_itemOf 39 = .ok (.iaload, 1) := by decide +kernel
theorem dX4_itemOf_40 : decode cX4_itemOf 40 = .ok (.iload_n 3, 1) := by decide +kernel
theorem dX4_itemOf_41 : decode cX4_itemOf 41 = .ok (.if_icmp .ne 6, 3) := by decide +kernel
theorem dX4_itemOf_44 : decode cX4_itemOf 44 = .ok (.iload 4, 2) := by decide +kernel
theorem dX4_itemOf_46 : decode cX4_itemOf 46 = .ok (.ireturn, 1) := by decide +kernel
theorem dX4_itemOf_47 : decode cX4_itemOf 47 = .ok (.iinc 4 1, 3) := by decide +kernel
theorem dX4_itemOf_50 : decode cX4_itemOf 50 = .ok (.goto (-44), 3) := by decide +kernel
theorem dX4_itemOf_53 : decode cX4_itemOf 53 = .ok (.bipush (-9), 2) := by decide +kernel
theorem dX4_itemOf_55 : decode cX4_itemOf 55 = .ok (.ireturn, 1) := by decide +kernel
theorem dX4_reach_0 : decode cX4_reach 0 = .ok (.aload_n 0, 1) := by decide +kernel
theorem dX4_reach_1 : decode cX4_reach 1 = .ok (.getfield 38, 3) := by decide +kernel
theorem dX4_reach_4 : decode cX4_reach 4 = .ok (.iload_n 1, 1) := by decide +kernel
theorem dX4_reach_5 : decode cX4_reach 5 = .ok (.iaload, 1) := by decide +kernel
theorem dX4_reach_6 : decode cX4_reach 6 = .ok (.ifCond .eq 6, 3) := by decide +kernel
theorem dX4_reach_9 : decode cX4_reach 9 = .ok (.bipush (-3), 2) := by decide +kernel
theorem dX4_reach_11 : decode cX4_reach 11 = .ok (.ireturn, 1) := by decide +kernel
theorem dX4_reach_12 : decode cX4_reach 12 = .ok (.aload_n 0, 1) := by decide +kernel
theorem dX4_reach_13 : decode cX4_reach 13 = .ok (.iload_n 2, 1) := by decide +kernel
theorem dX4_reach_14 : decode cX4_reach 14 = .ok (.invokevirtual 121, 3) := by decide +kernel
theorem dX4_reach_17 : decode cX4_reach 17 = .ok (.ifCond .eq 6, 3) := by decide +kernel
theorem dX4_reach_20 : decode cX4_reach 20 = .ok (.bipush (-5), 2) := by decide +kernel
theorem dX4_reach_22 : decode cX4_reach 22 = .ok (.ireturn, 1) := by decide +kernel
theorem dX4_reach_23 : decode cX4_reach 23 = .ok (.aload_n 0, 1) := by decide +kernel
theorem dX4_reach_24 : decode cX4_reach 24 = .ok (.iload_n 2, 1) := by decide +kernel
theorem dX4_reach_25 : decode cX4_reach 25 = .ok (.invokevirtual 124, 3) := by decide +kernel
theorem dX4_reach_28 : decode cX4_reach 28 = .ok (.istore 4, 2) := by decide +kernel
theorem dX4_reach_30 : decode cX4_reach 30 = .ok (.aload_n 0, 1) := by decide +kernel
theorem dX4_reach_31 : decode cX4_reach 31 = .ok (.iload_n 1, 1) := by decide +kernel
theorem dX4_reach_32 : decode cX4_reach 32 = .ok (.iload_n 2, 1) := by decide +kernel
theorem dX4_reach_33 : decode cX4_reach 33 = .ok (.iload_n 3, 1) := by decide +kernel
theorem dX4_reach_34 : decode cX4_reach 34 = .ok (.invokevirtual 139, 3) := by decide +kernel
theorem dX4_reach_37 : decode cX4_reach 37 = .ok (.istore 5, 2) := by decide +kernel
theorem dX4_reach_39 : decode cX4_reach 39 = .ok (.aload_n 0, 1) := by decide +kernel
theorem dX4_reach_40 : decode cX4_reach 40 = .ok (.getfield 7, 3) := by decide +kernel
theorem dX4_reach_43 : decode cX4_reach 43 = .ok (.aload_n 0, 1) := by decide +kernel
theorem dX4_reach_44 : decode cX4_reach 44 = .ok (.getfield 35, 3) := by decide +kernel
theorem dX4_reach_47 : decode cX4_reach 47 = .ok (.iload_n 1, 1) := by decide +kernel
theorem dX4_reach_48 : decode cX4_reach 48 = .ok (.iaload, 1) := by decide +kernel
theorem dX4_reach_49 : decode cX4_reach 49 = .ok (.baload, 1) := by decide +kernel
theorem dX4_reach_50 : decode cX4_reach 50 = .ok (.ifCond .eq 36, 3) := by decide +kernel
theorem dX4_reach_53 : decode cX4_reach 53 = .ok (.aload_n 0, 1) := by decide +kernel
theorem dX4_reach_54 : decode cX4_reach 54 = .ok (.iload_n 2, 1) := by decide +kernel
theorem dX4_reach_55 : decode cX4_reach 55 = .ok (.iload 4, 2) := by decide +kernel
theorem dX4_reach_57 : decode cX4_reach 57 = .ok (.invokevirtual 127, 3) := by decide +kernel
theorem dX4_reach_60 : decode cX4_reach 60 = .ok (.ifCond .eq 26, 3) := by decide +kernel
theorem dX4_reach_63 : decode cX4_reach 63 = .ok (.iload 5, 2) := by decide +kernel
theorem dX4_reach_65 : decode cX4_reach 65 = .ok (.bipush (-9), 2) := by decide +kernel
theorem dX4_reach_67 : decode cX4_reach 67 = .ok (.if_icmp .ne 22, 3) := by decide +kernel
theorem dX4_reach_70 : decode cX4_reach 70 = .ok (.aload_n 0, 1) := by decide +kernel
theorem dX4_reach_71 : decode cX4_reach 71 = .ok (.getfield 32, 3) := by decide +kernel
theorem dX4_reach_74 : decode cX4_reach 74 = .ok (.bipush 8, 2) := by decide +kernel
theorem dX4_reach_76 : decode cX4_reach 76 = .ok (.iload_n 2, 1) := by decide +kernel
theorem dX4_reach_77 : decode cX4_reach 77 = .ok (.imul, 1) := by decide +kernel
theorem dX4_reach_78 : decode cX4_reach 78 = .ok (.iload_n 3, 1) := by decide +kernel
theorem dX4_reach_79 : decode cX4_reach 79 = .ok (.iadd, 1) := by decide +kernel
theorem dX4_reach_80 : decode cX4_reach 80 = .ok (.iaload, 1) := by decide +kernel
theorem dX4_reach_81 : decode cX4_reach 81 = .ok (.bipush (-9), 2) := by decide +kernel
theorem dX4_reach_83 : decode cX4_reach 83 = .ok (.if_icmp .eq 6, 3) := by decide +kernel
theorem dX4_reach_86 : decode cX4_reach 86 = .ok (.bipush (-6), 2) := by decide +kernel
theorem dX4_reach_88 : decode cX4_reach 88 = .ok (.ireturn, 1) := by decide +kernel
theorem dX4_reach_89 : decode cX4_reach 89 = .ok (.iload 5, 2) := by decide +kernel
theorem dX4_reach_91 : decode cX4_reach 91 = .ok (.bipush (-9), 2) := by decide +kernel
theorem dX4_reach_93 : decode cX4_reach 93 = .ok (.if_icmp .eq 6, 3) := by decide +kernel
theorem dX4_reach_96 : decode cX4_reach 96 = .ok (.iload 5, 2) := by decide +kernel
theorem dX4_reach_98 : decode cX4_reach 98 = .ok (.ireturn, 1) := by decide +kernel
theorem dX4_reach_99 : decode cX4_reach 99 = .ok (.aload_n 0, 1) := by decide +kernel
theorem dX4_reach_100 : decode cX4_reach 100 = .ok (.getfield 44, 3) := by decide +kernel
theorem dX4_reach_103 : decode cX4_reach 103 = .ok (.iload_n 1, 1) := by decide +kernel
theorem dX4_reach_104 : decode cX4_reach 104 = .ok (.iaload, 1) := by decide +kernel
theorem dX4_reach_105 : decode cX4_reach 105 = .ok (.bipush 8, 2) := by decide +kernel
theorem dX4_reach_107 : decode cX4_reach 107 = .ok (.if_icmp .ne 6, 3) := by decide +kernel
theorem dX4_reach_110 : decode cX4_reach 110 = .ok (.bipush (-4), 2) := by decide +kernel
theorem dX4_reach_112 : decode cX4_reach 112 = .ok (.ireturn, 1) := by decide +kernel
theorem dX4_reach_113 : decode cX4_reach 113 = .ok (.bipush 8, 2) := by decide +kernel
theorem dX4_reach_115 : decode cX4_reach 115 = .ok (.iload_n 1, 1) := by decide +kernel
theorem dX4_reach_116 : decode cX4_reach 116 = .ok (.imul, 1) := by decide +kernel
theorem dX4_reach_117 : decode cX4_reach 117 = .ok (.aload_n 0, 1) := by decide +kernel
theorem dX4_reach_118 : decode cX4_reach 118 = .ok (.getfield 44, 3) := by decide +kernel
theorem dX4_reach_121 : decode cX4_reach 121 = .ok (.iload_n 1, 1) := by decide +kernel
theorem dX4_reach_122 : decode cX4_reach 122 = .ok (.iaload, 1) := by decide +kernel
theorem dX4_reach_123 : decode cX4_reach 123 = .ok (.iadd, 1) := by decide +kernel
theorem dX4_reach_124 : decode cX4_reach 124 = .ok (.istore 5, 2) := by decide +kernel
theorem dX4_reach_126 : decode cX4_reach 126 = .ok (.aload_n 0, 1) := by decide +kernel
theorem dX4_reach_127 : decode cX4_reach 127 = .ok (.getfield 44, 3) := by decide +kernel
theorem dX4_reach_130 : decode cX4_reach 130 = .ok (.iload_n 1, 1) := by decide +kernel
theorem dX4_reach_131 : decode cX4_reach 131 = .ok (.dup2, 1) := by decide +kernel
theorem dX4_reach_132 : decode cX4_reach 132 = .ok (.iaload, 1) := by decide +kernel
theorem dX4_reach_133 : decode cX4_reach 133 = .ok (.iconst 1, 1) := by decide +kernel
theorem dX4_reach_134 : decode cX4_reach 134 = .ok (.iadd, 1) := by decide +kernel
theorem dX4_reach_135 : decode cX4_reach 135 = .ok (.iastore, 1) := by decide +kernel
theorem dX4_reach_136 : decode cX4_reach 136 = .ok (.aload_n 0, 1) := by decide +kernel
theorem dX4_reach_137 : decode cX4_reach 137 = .ok (.getfield 53, 3) := by decide +kernel
theorem dX4_reach_140 : decode cX4_reach 140 = .ok (.iload 5, 2) := by decide +kernel
theorem dX4_reach_142 : decode cX4_reach 142 = .ok (.iload_n 2, 1) := by decide +kernel
theorem dX4_reach_143 : decode cX4_reach 143 = .ok (.iastore, 1) := by decide +kernel
theorem dX4_reach_144 : decode cX4_reach 144 = .ok (.aload_n 0, 1) := by decide +kernel
theorem dX4_reach_145 : decode cX4_reach 145 = .ok (.getfield 56, 3) := by decide +kernel
theorem dX4_reach_148 : decode cX4_reach 148 = .ok (.iload 5, 2) := by decide +kernel
theorem dX4_reach_150 : decode cX4_reach 150 = .ok (.iload_n 3, 1) := by decide +kernel
theorem dX4_reach_151 : decode cX4_reach 151 = .ok (.iastore, 1) := by decide +kernel
theorem dX4_reach_152 : decode cX4_reach 152 = .ok (.aload_n 0, 1) := by decide +kernel
theorem dX4_reach_153 : decode cX4_reach 153 = .ok (.getfield 59, 3) := by decide +kernel
theorem dX4_reach_156 : decode cX4_reach 156 = .ok (.iload 5, 2) := by decide +kernel
theorem dX4_reach_158 : decode cX4_reach 158 = .ok (.aload_n 0, 1) := by decide +kernel
theorem dX4_reach_159 : decode cX4_reach 159 = .ok (.getfield 26, 3) := by decide +kernel
theorem dX4_reach_162 : decode cX4_reach 162 = .ok (.bipush 8, 2) := by decide +kernel
theorem dX4_reach_164 : decode cX4_reach 164 = .ok (.bipush 6, 2) := by decide +kernel
theorem dX4_reach_166 : decode cX4_reach 166 = .ok (.iload_n 2, 1) := by decide +kernel
theorem dX4_reach_167 : decode cX4_reach 167 = .ok (.imul, 1) := by decide +kernel
theorem dX4_reach_168 : decode cX4_reach 168 = .ok (.iload 4, 2) := by decide +kernel
theorem dX4_reach_170 : decode cX4_reach 170 = .ok (.iadd, 1) := by decide +kernel
theorem dX4_reach_171 : decode cX4_reach 171 = .ok (.imul, 1) := by decide +kernel
theorem dX4_reach_172 : decode cX4_reach 172 = .ok (.iload_n 3, 1) := by decide +kernel
theorem dX4_reach_173 : decode cX4_reach 173 = .ok (.iadd, 1) := by decide +kernel
theorem dX4_reach_174 : decode cX4_reach 174 = .ok (.iaload, 1) := by decide +kernel
theorem dX4_reach_175 : decode cX4_reach 175 = .ok (.iastore, 1) := by decide +kernel
theorem dX4_reach_176 : decode cX4_reach 176 = .ok (.aload_n 0, 1) := by decide +kernel
theorem dX4_reach_177 : decode cX4_reach 177 = .ok (.getfield 62, 3) := by decide +kernel
theorem dX4_reach_180 : decode cX4_reach 180 = .ok (.iload 5, 2) := by decide +kernel
theorem dX4_reach_182 : decode cX4_reach 182 = .ok (.aload_n 0, 1) := by decide +kernel
theorem dX4_reach_183 : decode cX4_reach 183 = .ok (.getfield 29, 3) := by decide +kernel
theorem dX4_reach_186 : decode cX4_reach 186 = .ok (.bipush 8, 2) := by decide +kernel
theorem dX4_reach_188 : decode cX4_reach 188 = .ok (.bipush 6, 2) := by decide +kernel
theorem dX4_reach_190 : decode cX4_reach 190 = .ok (.iload_n 2, 1) := by decide +kernel
theorem dX4_reach_191 : decode cX4_reach 191 = .ok (.imul, 1) := by decide +kernel
theorem dX4_reach_192 : decode cX4_reach 192 = .ok (.iload 4, 2) := by decide +kernel
theorem dX4_reach_194 : decode cX4_reach 194 = .ok (.iadd, 1) := by decide +kernel
theorem dX4_reach_195 : decode cX4_reach 195 = .ok (.imul, 1) := by decide +kernel
theorem dX4_reach_196 : decode cX4_reach 196 = .ok (.iload_n 3, 1) := by decide +kernel
theorem dX4_reach_197 : decode cX4_reach 197 = .ok (.iadd, 1) := by decide +kernel
theorem dX4_reach_198 : decode cX4_reach 198 = .ok (.iaload, 1) := by decide +kernel
theorem dX4_reach_199 : decode cX4_reach 199 = .ok (.iastore, 1) := by decide +kernel
theorem dX4_reach_200 : decode cX4_reach 200 = .ok (.iload 5, 2) := by decide +kernel
theorem dX4_reach_202 : decode cX4_reach 202 = .ok (.ireturn, 1) := by decide +kernel
theorem dX4_isKnown_0 : decode cX4_isKnown 0 = .ok (.aload_n 0, 1) := by decide +kernel
theorem dX4_isKnown_1 : decode cX4_isKnown 1 = .ok (.iload_n 1, 1) := by decide +kernel
theorem dX4_isKnown_2 : decode cX4_isKnown 2 = .ok (.invokevirtual 143, 3) := by decide +kernel
theorem dX4_isKnown_5 : decode cX4_isKnown 5 = .ok (.ifCond .eq 27, 3) := by decide +kernel
theorem dX4_isKnown_8 : decode cX4_isKnown 8 = .ok (.aload_n 0, 1) := by decide +kernel
theorem dX4_isKnown_9 : decode cX4_isKnown 9 = .ok (.iload_n 2, 1) := by decide +kernel
theorem dX4_isKnown_10 : decode cX4_isKnown 10 = .ok (.invokevirtual 118, 3) := by decide +kernel
theorem dX4_isKnown_13 : decode cX4_isKnown 13 = .ok (.ifCond .eq 19, 3) := by decide +kernel
theorem dX4_isKnown_16 : decode cX4_isKnown 16 = .ok (.iload_n 3, 1) := by decide +kernel
theorem dX4_isKnown_17 : decode cX4_isKnown 17 = .ok (.i2l, 1) := by decide +kernel
theorem dX4_isKnown_18 : decode cX4_isKnown 18 = .ok (.lconst 0, 1) := by decide +kernel
theorem dX4_isKnown_19 : decode cX4_isKnown 19 = .ok (.ldc2_w 146, 3) := by decide +kernel
theorem dX4_isKnown_22 : decode cX4_isKnown 22 = .ok (.invokestatic 88, 3) := by decide +kernel
theorem dX4_isKnown_25 : decode cX4_isKnown 25 = .ok (.ifCond .eq 7, 3) := by decide +kernel
theorem dX4_isKnown_28 : decode cX4_isKnown 28 = .ok (.iconst 1, 1) := by decide +kernel
theorem dX4_isKnown_29 : decode cX4_isKnown 29 = .ok (.goto 4, 3) := by decide +kernel
theorem dX4_isKnown_32 : decode cX4_isKnown 32 = .ok (.iconst 0, 1) := by decide +kernel
theorem dX4_isKnown_33 : decode cX4_isKnown 33 = .ok (.ireturn, 1) := by decide +kernel
theorem dX4_read_0 : decode cX4_read 0 = .ok (.aload_n 0, 1) := by decide +kernel
theorem dX4_read_1 : decode cX4_read 1 = .ok (.iload_n 1, 1) := by decide +kernel
theorem dX4_read_2 : decode cX4_read 2 = .ok (.iload_n 2, 1) := by decide +kernel
theorem dX4_read_3 : decode cX4_read 3 = .ok (.iload_n 3, 1) := by decide +kernel
theorem dX4_read_4 : decode cX4_read 4 = .ok (.invokevirtual 148, 3) := by decide +kernel
theorem dX4_read_7 : decode cX4_read 7 = .ok (.ifCond .ne 5, 3) := by decide +kernel
theorem dX4_read_10 : decode cX4_read 10 = .ok (.iconst (-1), 1) := by decide +kernel
theorem dX4_read_11 : decode cX4_read 11 = .ok (.ireturn, 1) := by decide +kernel
theorem dX4_read_12 : decode cX4_read 12 = .ok (.aload_n 0, 1) := by decide +kernel
theorem dX4_read_13 : decode cX4_read 13 = .ok (.iload_n 1, 1) := by decide +kernel
theorem dX4_read_14 : decode cX4_read 14 = .ok (.iload_n 2, 1) := by decide +kernel
theorem dX4_read_15 : decode cX4_read 15 = .ok (.iload_n 3, 1) := by decide +kernel
theorem dX4_read_16 : decode cX4_read 16 = .ok (.invokevirtual 152, 3) := by decide +kernel
theorem dX4_read_19 : decode cX4_read 19 = .ok (.istore 4, 2) := by decide +kernel
theorem dX4_read_21 : decode cX4_read 21 = .ok (.iload 4, 2) := by decide +kernel
theorem dX4_read_23 : decode cX4_read 23 = .ok (.ifCond .ge 8, 3) := by decide +kernel
theorem dX4_read_26 : decode cX4_read 26 = .ok (.iload 4, 2) := by decide +kernel
theorem dX4_read_28 : decode cX4_read 28 = .ok (.goto 30, 3) := by decide +kernel
theorem dX4_read_31 : decode cX4_read 31 = .ok (.aload_n 0, 1) := by decide +kernel
theorem dX4_read_32 : decode cX4_read 32 = .ok (.getfield 65, 3) := by decide +kernel
theorem dX4_read_35 : decode cX4_read 35 = .ok (.iload 4, 2) := by decide +kernel
theorem dX4_read_37 : decode cX4_read 37 = .ok (.baload, 1) := by decide +kernel
theorem dX4_read_38 : decode cX4_read 38 = .ok (.ifCond .eq 13, 3) := by decide +kernel
theorem dX4_read_41 : decode cX4_read 41 = .ok (.aload_n 0, 1) := by decide +kernel
theorem dX4_read_42 : decode cX4_read 42 = .ok (.getfield 68, 3) := by decide +kernel
theorem dX4_read_45 : decode cX4_read 45 = .ok (.iload 4, 2) := by decide +kernel
theorem dX4_read_47 : decode cX4_read 47 = .ok (.iaload, 1) := by decide +kernel
theorem dX4_read_48 : decode cX4_read 48 = .ok (.goto 10, 3) := by decide +kernel
theorem dX4_read_51 : decode cX4_read 51 = .ok (.aload_n 0, 1) := by decide +kernel
theorem dX4_read_52 : decode cX4_read 52 = .ok (.getfield 59, 3) := by decide +kernel
theorem dX4_read_55 : decode cX4_read 55 = .ok (.iload 4, 2) := by decide +kernel
theorem dX4_read_57 : decode cX4_read 57 = .ok (.iaload, 1) := by decide +kernel
theorem dX4_read_58 : decode cX4_read 58 = .ok (.ireturn, 1) := by decide +kernel
theorem dX4_writes_0 : decode cX4_writes 0 = .ok (.iconst 0, 1) := by decide +kernel
theorem dX4_writes_1 : decode cX4_writes 1 = .ok (.istore_n 2, 1) := by decide +kernel
theorem dX4_writes_2 : decode cX4_writes 2 = .ok (.bipush 8, 2) := by decide +kernel
theorem dX4_writes_4 : decode cX4_writes 4 = .ok (.iload_n 1, 1) := by decide +kernel
theorem dX4_writes_5 : decode cX4_writes 5 = .ok (.imul, 1) := by decide +kernel
theorem dX4_writes_6 : decode cX4_writes 6 = .ok (.istore_n 3, 1) := by decide +kernel
theorem dX4_writes_7 : decode cX4_writes 7 = .ok (.iload_n 3, 1) := by decide +kernel
theorem dX4_writes_8 : decode cX4_writes 8 = .ok (.bipush 8, 2) := by decide +kernel
theorem dX4_writes_10 : decode cX4_writes 10 = .ok (.iload_n 1, 1) := by decide +kernel
theorem dX4_writes_11 : decode cX4_writes 11 = .ok (.imul, 1) := by decide +kernel
theorem dX4_writes_12 : decode cX4_writes 12 = .ok (.aload_n 0, 1) := by decide +kernel
theorem dX4_writes_13 : decode cX4_writes 13 = .ok (.getfield 44, 3) := by decide +kernel
theorem dX4_writes_16 : decode cX4_writes 16 = .ok (.iload_n 1, 1) := by decide +kernel
theorem dX4_writes_17 : decode cX4_writes 17 = .ok (.iaload, 1) := by decide +kernel
theorem dX4_writes_18 : decode cX4_writes 18 = .ok (.iadd, 1) := by decide +kernel
theorem dX4_writes_19 : decode cX4_writes 19 = .ok (.if_icmp .ge 26, 3) := by decide +kernel
theorem dX4_writes_22 : decode cX4_writes 22 = .ok (.iload_n 2, 1) := by decide +kernel
theorem dX4_writes_23 : decode cX4_writes 23 = .ok (.aload_n 0, 1) := by decide +kernel
theorem dX4_writes_24 : decode cX4_writes 24 = .ok (.getfield 65, 3) := by decide +kernel
theorem dX4_writes_27 : decode cX4_writes 27 = .ok (.iload_n 3, 1) := by decide +kernel
theorem dX4_writes_28 : decode cX4_writes 28 = .ok (.baload, 1) := by decide +kernel
theorem dX4_writes_29 : decode cX4_writes 29 = .ok (.ifCond .eq 7, 3) := by decide +kernel
theorem dX4_writes_32 : decode cX4_writes 32 = .ok (.iconst 1, 1) := by decide +kernel
theorem dX4_writes_33 : decode cX4_writes 33 = .ok (.goto 4, 3) := by decide +kernel
theorem dX4_writes_36 : decode cX4_writes 36 = .ok (.iconst 0, 1) := by decide +kernel
theorem dX4_writes_37 : decode cX4_writes 37 = .ok (.iadd, 1) := by decide +kernel
theorem dX4_writes_38 : decode cX4_writes 38 = .ok (.istore_n 2, 1) := by decide +kernel
theorem dX4_writes_39 : decode cX4_writes 39 = .ok (.iinc 3 1, 3) := by decide +kernel
theorem dX4_writes_42 : decode cX4_writes 42 = .ok (.goto (-35), 3) := by decide +kernel
theorem dX4_writes_45 : decode cX4_writes 45 = .ok (.iload_n 2, 1) := by decide +kernel
theorem dX4_writes_46 : decode cX4_writes 46 = .ok (.ireturn, 1) := by decide +kernel
theorem dX4_write_0 : decode cX4_write 0 = .ok (.aload_n 0, 1) := by decide +kernel
theorem dX4_write_1 : decode cX4_write 1 = .ok (.iload_n 1, 1) := by decide +kernel
theorem dX4_write_2 : decode cX4_write 2 = .ok (.iload_n 2, 1) := by decide +kernel
theorem dX4_write_3 : decode cX4_write 3 = .ok (.iload_n 3, 1) := by decide +kernel
theorem dX4_write_4 : decode cX4_write 4 = .ok (.invokevirtual 148, 3) := by decide +kernel
theorem dX4_write_7 : decode cX4_write 7 = .ok (.ifCond .ne 5, 3) := by decide +kernel
theorem dX4_write_10 : decode cX4_write 10 = .ok (.iconst (-1), 1) := by decide +kernel
theorem dX4_write_11 : decode cX4_write 11 = .ok (.ireturn, 1) := by decide +kernel
theorem dX4_write_12 : decode cX4_write 12 = .ok (.iload 4, 2) := by decide +kernel
theorem dX4_write_14 : decode cX4_write 14 = .ok (.i2l, 1) := by decide +kernel
theorem dX4_write_15 : decode cX4_write 15 = .ok (.ldc2_w 155, 3) := by decide +kernel
theorem dX4_write_18 : decode cX4_write 18 = .ok (.ldc2_w 157, 3) := by decide +kernel
theorem dX4_write_21 : decode cX4_write 21 = .ok (.invokestatic 88, 3) := by decide +kernel
theorem dX4_write_24 : decode cX4_write 24 = .ok (.ifCond .ne 19, 3) := by decide +kernel
theorem dX4_write_27 : decode cX4_write 27 = .ok (.iload 4, 2) := by decide +kernel
theorem dX4_write_29 : decode cX4_write 29 = .ok (.i2l, 1) := by decide +kernel
theorem dX4_write_30 : decode cX4_write 30 = .ok (.lconst 0, 1) := by decide +kernel
theorem dX4_write_31 : decode cX4_write 31 = .ok (.ldc2_w 159, 3) := by decide +kernel
theorem dX4_write_34 : decode cX4_write 34 = .ok (.invokestatic 88, 3) := by decide +kernel
theorem dX4_write_37 : decode cX4_write 37 = .ok (.ifCond .ne 6, 3) := by decide +kernel
theorem dX4_write_40 : decode cX4_write 40 = .ok (.bipush (-2), 2) := by decide +kernel
theorem dX4_write_42 : decode cX4_write 42 = .ok (.ireturn, 1) := by decide +kernel
theorem dX4_write_43 : decode cX4_write 43 = .ok (.aload_n 0, 1) := by decide +kernel
theorem dX4_write_44 : decode cX4_write 44 = .ok (.iload_n 1, 1) := by decide +kernel
theorem dX4_write_45 : decode cX4_write 45 = .ok (.iload_n 2, 1) := by decide +kernel
theorem dX4_write_46 : decode cX4_write 46 = .ok (.iload_n 3, 1) := by decide +kernel
theorem dX4_write_47 : decode cX4_write 47 = .ok (.invokevirtual 152, 3) := by decide +kernel
theorem dX4_write_50 : decode cX4_write 50 = .ok (.istore 5, 2) := by decide +kernel
theorem dX4_write_52 : decode cX4_write 52 = .ok (.iload 5, 2) := by decide +kernel
theorem dX4_write_54 : decode cX4_write 54 = .ok (.ifCond .ge 6, 3) := by decide +kernel
theorem dX4_write_57 : decode cX4_write 57 = .ok (.iload 5, 2) := by decide +kernel
theorem dX4_write_59 : decode cX4_write 59 = .ok (.ireturn, 1) := by decide +kernel
theorem dX4_write_60 : decode cX4_write 60 = .ok (.aload_n 0, 1) := by decide +kernel
theorem dX4_write_61 : decode cX4_write 61 = .ok (.getfield 65, 3) := by decide +kernel
theorem dX4_write_64 : decode cX4_write 64 = .ok (.iload 5, 2) := by decide +kernel
theorem dX4_write_66 : decode cX4_write 66 = .ok (.iconst 1, 1) := by decide +kernel
theorem dX4_write_67 : decode cX4_write 67 = .ok (.bastore, 1) := by decide +kernel
theorem dX4_write_68 : decode cX4_write 68 = .ok (.aload_n 0, 1) := by decide +kernel
theorem dX4_write_69 : decode cX4_write 69 = .ok (.getfield 68, 3) := by decide +kernel
theorem dX4_write_72 : decode cX4_write 72 = .ok (.iload 5, 2) := by decide +kernel
theorem dX4_write_74 : decode cX4_write 74 = .ok (.iload 4, 2) := by decide +kernel
theorem dX4_write_76 : decode cX4_write 76 = .ok (.iastore, 1) := by decide +kernel
theorem dX4_write_77 : decode cX4_write 77 = .ok (.aload_n 0, 1) := by decide +kernel
theorem dX4_write_78 : decode cX4_write 78 = .ok (.iload_n 1, 1) := by decide +kernel
theorem dX4_write_79 : decode cX4_write 79 = .ok (.invokevirtual 161, 3) := by decide +kernel
theorem dX4_write_82 : decode cX4_write 82 = .ok (.ireturn, 1) := by decide +kernel
theorem dX4_nth_0 : decode cX4_nth 0 = .ok (.iload_n 2, 1) := by decide +kernel
theorem dX4_nth_1 : decode cX4_nth 1 = .ok (.istore 4, 2) := by decide +kernel
theorem dX4_nth_3 : decode cX4_nth 3 = .ok (.bipush 8, 2) := by decide +kernel
theorem dX4_nth_5 : decode cX4_nth 5 = .ok (.iload_n 1, 1) := by decide +kernel
theorem dX4_nth_6 : decode cX4_nth 6 = .ok (.imul, 1) := by decide +kernel
theorem dX4_nth_7 : decode cX4_nth 7 = .ok (.istore 5, 2) := by decide +kernel
theorem dX4_nth_9 : decode cX4_nth 9 = .ok (.iload 5, 2) := by decide +kernel
theorem dX4_nth_11 : decode cX4_nth 11 = .ok (.bipush 8, 2) := by decide +kernel
theorem dX4_nth_13 : decode cX4_nth 13 = .ok (.iload_n 1, 1) := by decide +kernel
theorem dX4_nth_14 : decode cX4_nth 14 = .ok (.imul, 1) := by decide +kernel
theorem dX4_nth_15 : decode cX4_nth 15 = .ok (.aload_n 0, 1) := by decide +kernel
theorem dX4_nth_16 : decode cX4_nth 16 = .ok (.getfield 44, 3) := by decide +kernel
theorem dX4_nth_19 : decode cX4_nth 19 = .ok (.iload_n 1, 1) := by decide +kernel
theorem dX4_nth_20 : decode cX4_nth 20 = .ok (.iaload, 1) := by decide +kernel
theorem dX4_nth_21 : decode cX4_nth 21 = .ok (.iadd, 1) := by decide +kernel
theorem dX4_nth_22 : decode cX4_nth 22 = .ok (.if_icmp .ge 31, 3) := by decide +kernel
theorem dX4_nth_25 : decode cX4_nth 25 = .ok (.aload_n 0, 1) := by decide +kernel
theorem dX4_nth_26 : decode cX4_nth 26 = .ok (.getfield 65, 3) := by decide +kernel
theorem dX4_nth_29 : decode cX4_nth 29 = .ok (.iload 5, 2) := by decide +kernel
theorem dX4_nth_31 : decode cX4_nth 31 = .ok (.baload, 1) := by decide +kernel
theorem dX4_nth_32 : decode cX4_nth 32 = .ok (.iload_n 3, 1) := by decide +kernel
theorem dX4_nth_33 : decode cX4_nth 33 = .ok (.if_icmp .ne 14, 3) := by decide +kernel
theorem dX4_nth_36 : decode cX4_nth 36 = .ok (.iload 4, 2) := by decide +kernel
theorem dX4_nth_38 : decode cX4_nth 38 = .ok (.ifCond .ne 6, 3) := by decide +kernel
theorem dX4_nth_41 : decode cX4_nth 41 = .ok (.iload 5, 2) := by decide +kernel
theorem dX4_nth_43 : decode cX4_nth 43 = .ok (.ireturn, 1) := by decide +kernel
theorem dX4_nth_44 : decode cX4_nth 44 = .ok (.iinc 4 (-1), 3) := by decide +kernel
theorem dX4_nth_47 : decode cX4_nth 47 = .ok (.iinc 5 1, 3) := by decide +kernel
theorem dX4_nth_50 : decode cX4_nth 50 = .ok (.goto (-41), 3) := by decide +kernel
theorem dX4_nth_53 : decode cX4_nth 53 = .ok (.bipush (-9), 2) := by decide +kernel
theorem dX4_nth_55 : decode cX4_nth 55 = .ok (.ireturn, 1) := by decide +kernel
theorem dX4_seekBackup_0 : decode cX4_seekBackup 0 = .ok (.iload_n 2, 1) := by decide +kernel
theorem dX4_seekBackup_1 : decode cX4_seekBackup 1 = .ok (.istore_n 3, 1) := by decide +kernel
theorem dX4_seekBackup_2 : decode cX4_seekBackup 2 = .ok (.bipush 8, 2) := by decide +kernel
theorem dX4_seekBackup_4 : decode cX4_seekBackup 4 = .ok (.iload_n 1, 1) := by decide +kernel
theorem dX4_seekBackup_5 : decode cX4_seekBackup 5 = .ok (.imul, 1) := by decide +kernel
theorem dX4_seekBackup_6 : decode cX4_seekBackup 6 = .ok (.istore 4, 2) := by decide +kernel
theorem dX4_seekBackup_8 : decode cX4_seekBackup 8 = .ok (.iload 4, 2) := by decide +kernel
theorem dX4_seekBackup_10 : decode cX4_seekBackup 10 = .ok (.bipush 8, 2) := by decide +kernel
theorem dX4_seekBackup_12 : decode cX4_seekBackup 12 = .ok (.iload_n 1, 1) := by decide +kernel
theorem dX4_seekBackup_13 : decode cX4_seekBackup 13 = .ok (.imul, 1) := by decide +kernel
theorem dX4_seekBackup_14 : decode cX4_seekBackup 14 = .ok (.aload_n 0, 1) := by decide +kernel
theorem dX4_seekBackup_15 : decode cX4_seekBackup 15 = .ok (.getfield 44, 3) := by decide +kernel
theorem dX4_seekBackup_18 : decode cX4_seekBackup 18 = .ok (.iload_n 1, 1) := by decide +kernel
theorem dX4_seekBackup_19 : decode cX4_seekBackup 19 = .ok (.iaload, 1) := by decide +kernel
theorem dX4_seekBackup_20 : decode cX4_seekBackup 20 = .ok (.iadd, 1) := by decide +kernel
theorem dX4_seekBackup_21 : decode cX4_seekBackup 21 = .ok (.if_icmp .ge 96, 3) := by decide +kernel
theorem dX4_seekBackup_24 : decode cX4_seekBackup 24 = .ok (.aload_n 0, 1) := by decide +kernel
theorem dX4_seekBackup_25 : decode cX4_seekBackup 25 = .ok (.getfield 53, 3) := by decide +kernel
theorem dX4_seekBackup_28 : decode cX4_seekBackup 28 = .ok (.iload 4, 2) := by decide +kernel
theorem dX4_seekBackup_30 : decode cX4_seekBackup 30 = .ok (.iaload, 1) := by decide +kernel
theorem dX4_seekBackup_31 : decode cX4_seekBackup 31 = .ok (.istore 5, 2) := by decide +kernel
theorem dX4_seekBackup_33 : decode cX4_seekBackup 33 = .ok (.aload_n 0, 1) := by decide +kernel
theorem dX4_seekBackup_34 : decode cX4_seekBackup 34 = .ok (.iload 5, 2) := by decide +kernel
theorem dX4_seekBackup_36 : decode cX4_seekBackup 36 = .ok (.invokevirtual 124, 3) := by decide +kernel
theorem dX4_seekBackup_39 : decode cX4_seekBackup 39 = .ok (.istore 6, 2) := by decide +kernel
theorem dX4_seekBackup_41 : decode cX4_seekBackup 41 = .ok (.iconst 0, 1) := by decide +kernel
theorem dX4_seekBackup_42 : decode cX4_seekBackup 42 = .ok (.istore 7, 2) := by decide +kernel
theorem dX4_seekBackup_44 : decode cX4_seekBackup 44 = .ok (.iload 7, 2) := by decide +kernel
theorem dX4_seekBackup_46 : decode cX4_seekBackup 46 = .ok (.aload_n 0, 1) := by decide +kernel
theorem dX4_seekBackup_47 : decode cX4_seekBackup 47 = .ok (.getfield 19, 3) := by decide +kernel
theorem dX4_seekBackup_50 : decode cX4_seekBackup 50 = .ok (.iload 5, 2) := by decide +kernel
theorem dX4_seekBackup_52 : decode cX4_seekBackup 52 = .ok (.iaload, 1) := by decide +kernel
theorem dX4_seekBackup_53 : decode cX4_seekBackup 53 = .ok (.if_icmp .ge 58, 3) := by decide +kernel
theorem dX4_seekBackup_56 : decode cX4_seekBackup 56 = .ok (.aload_n 0, 1) := by decide +kernel
theorem dX4_seekBackup_57 : decode cX4_seekBackup 57 = .ok (.getfield 65, 3) := by decide +kernel
theorem dX4_seekBackup_60 : decode cX4_seekBackup 60 = .ok (.iload 4, 2) := by decide +kernel
theorem dX4_seekBackup_62 : decode cX4_seekBackup 62 = .ok (.baload, 1) := by decide +kernel
theorem dX4_seekBackup_63 : decode cX4_seekBackup 63 = .ok (.ifCond .eq 48, 3) := by decide +kernel
theorem dX4_seekBackup_66 : decode cX4_seekBackup 66 = .ok (.iload 7, 2) := by decide +kernel
theorem dX4_seekBackup_68 : decode cX4_seekBackup 68 = .ok (.iload 6, 2) := by decide +kernel
theorem dX4_seekBackup_70 : decode cX4_seekBackup 70 = .ok (.if_icmp .eq 35, 3) := by decide +kernel
theorem dX4_seekBackup_73 : decode cX4_seekBackup 73 = .ok (.aload_n 0, 1) := by decide +kernel
theorem dX4_seekBackup_74 : decode cX4_seekBackup 74 = .ok (.iload 5, 2) := by decide +kernel
theorem dX4_seekBackup_76 : decode cX4_seekBackup 76 = .ok (.iload 7, 2) := by decide +kernel
theorem dX4_seekBackup_78 : decode cX4_seekBackup 78 = .ok (.invokevirtual 96, 3) := by decide +kernel
theorem dX4_seekBackup_81 : decode cX4_seekBackup 81 = .ok (.ifCond .eq 24, 3) := by decide +kernel
theorem dX4_seekBackup_84 : decode cX4_seekBackup 84 = .ok (.iload_n 3, 1) := by decide +kernel
theorem dX4_seekBackup_85 : decode cX4_seekBackup 85 = .ok (.ifCond .ne 17, 3) := by decide +kernel
theorem dX4_seekBackup_88 : decode cX4_seekBackup 88 = .ok (.aload_n 0, 1) := by decide +kernel
theorem dX4_seekBackup_89 : decode cX4_seekBackup 89 = .ok (.iload 4, 2) := by decide +kernel
theorem dX4_seekBackup_91 : decode cX4_seekBackup 91 = .ok (.putfield 164, 3) := by decide +kernel
theorem dX4_seekBackup_94 : decode cX4_seekBackup 94 = .ok (.aload_n 0, 1) := by decide +kernel
theorem dX4_seekBackup_95 : decode cX4_seekBackup 95 = .ok (.iload 7, 2) := by decide +kernel
theorem dX4_seekBackup_97 : decode cX4_seekBackup 97 = .ok (.putfield 167, 3) := by decide +kernel
theorem dX4_seekBackup_100 : decode cX4_seekBackup 100 = .ok (.iconst 1, 1) := by decide +kernel
theorem dX4_seekBackup_101 : decode cX4_seekBackup 101 = .ok (.ireturn, 1) := by decide +kernel
theorem dX4_seekBackup_102 : decode cX4_seekBackup 102 = .ok (.iinc 3 (-1), 3) := by decide +kernel
theorem dX4_seekBackup_105 : decode cX4_seekBackup 105 = .ok (.iinc 7 1, 3) := by decide +kernel
theorem dX4_seekBackup_108 : decode cX4_seekBackup 108 = .ok (.goto (-64), 3) := by decide +kernel
theorem dX4_seekBackup_111 : decode cX4_seekBackup 111 = .ok (.iinc 4 1, 3) := by decide +kernel
theorem dX4_seekBackup_114 : decode cX4_seekBackup 114 = .ok (.goto (-106), 3) := by decide +kernel
theorem dX4_seekBackup_117 : decode cX4_seekBackup 117 = .ok (.iconst 0, 1) := by decide +kernel
theorem dX4_seekBackup_118 : decode cX4_seekBackup 118 = .ok (.ireturn, 1) := by decide +kernel
theorem dX4_firstRecord_0 : decode cX4_firstRecord 0 = .ok (.iconst 0, 1) := by decide +kernel
theorem dX4_firstRecord_1 : decode cX4_firstRecord 1 = .ok (.istore_n 2, 1) := by decide +kernel
theorem dX4_firstRecord_2 : decode cX4_firstRecord 2 = .ok (.iload_n 2, 1) := by decide +kernel
theorem dX4_firstRecord_3 : decode cX4_firstRecord 3 = .ok (.aload_n 0, 1) := by decide +kernel
theorem dX4_firstRecord_4 : decode cX4_firstRecord 4 = .ok (.getfield 170, 3) := by decide +kernel
theorem dX4_firstRecord_7 : decode cX4_firstRecord 7 = .ok (.if_icmp .ge 35, 3) := by decide +kernel
theorem dX4_firstRecord_10 : decode cX4_firstRecord 10 = .ok (.aload_n 0, 1) := by decide +kernel
theorem dX4_firstRecord_11 : decode cX4_firstRecord 11 = .ok (.getfield 74, 3) := by decide +kernel
theorem dX4_firstRecord_14 : decode cX4_firstRecord 14 = .ok (.iload_n 2, 1) := by decide +kernel
theorem dX4_firstRecord_15 : decode cX4_firstRecord 15 = .ok (.iaload, 1) := by decide +kernel
theorem dX4_firstRecord_16 : decode cX4_firstRecord 16 = .ok (.bipush (-9), 2) := by decide +kernel
theorem dX4_firstRecord_18 : decode cX4_firstRecord 18 = .ok (.if_icmp .eq 18, 3) := by decide +kernel
theorem dX4_firstRecord_21 : decode cX4_firstRecord 21 = .ok (.aload_n 0, 1) := by decide +kernel
theorem dX4_firstRecord_22 : decode cX4_firstRecord 22 = .ok (.getfield 74, 3) := by decide +kernel
theorem dX4_firstRecord_25 : decode cX4_firstRecord 25 = .ok (.iload_n 2, 1) := by decide +kernel
theorem dX4_firstRecord_26 : decode cX4_firstRecord 26 = .ok (.iaload, 1) := by decide +kernel
theorem dX4_firstRecord_27 : decode cX4_firstRecord 27 = .ok (.bipush 8, 2) := by decide +kernel
theorem dX4_firstRecord_29 : decode cX4_firstRecord 29 = .ok (.idiv, 1) := by decide +kernel
theorem dX4_firstRecord_30 : decode cX4_firstRecord 30 = .ok (.iload_n 1, 1) := by decide +kernel
theorem dX4_firstRecord_31 : decode cX4_firstRecord 31 = .ok (.if_icmp .ne 5, 3) := by decide +kernel
theorem dX4_firstRecord_34 : decode cX4_firstRecord 34 = .ok (.iload_n 2, 1) := by decide +kernel
theorem dX4_firstRecord_35 : decode cX4_firstRecord 35 = .ok (.ireturn, 1) := by decide +kernel
theorem dX4_firstRecord_36 : decode cX4_firstRecord 36 = .ok (.iinc 2 1, 3) := by decide +kernel
theorem dX4_firstRecord_39 : decode cX4_firstRecord 39 = .ok (.goto (-37), 3) := by decide +kernel
theorem dX4_firstRecord_42 : decode cX4_firstRecord 42 = .ok (.bipush (-9), 2) := by decide +kernel
theorem dX4_firstRecord_44 : decode cX4_firstRecord 44 = .ok (.ireturn, 1) := by decide +kernel
theorem dX4_firstLocked_0 : decode cX4_firstLocked 0 = .ok (.bipush 8, 2) := by decide +kernel
theorem dX4_firstLocked_2 : decode cX4_firstLocked 2 = .ok (.iload_n 1, 1) := by decide +kernel
theorem dX4_firstLocked_3 : decode cX4_firstLocked 3 = .ok (.imul, 1) := by decide +kernel
theorem dX4_firstLocked_4 : decode cX4_firstLocked 4 = .ok (.istore_n 2, 1) := by decide +kernel
theorem dX4_firstLocked_5 : decode cX4_firstLocked 5 = .ok (.iload_n 2, 1) := by decide +kernel
theorem dX4_firstLocked_6 : decode cX4_firstLocked 6 = .ok (.bipush 8, 2) := by decide +kernel
theorem dX4_firstLocked_8 : decode cX4_firstLocked 8 = .ok (.iload_n 1, 1) := by decide +kernel
theorem dX4_firstLocked_9 : decode cX4_firstLocked 9 = .ok (.imul, 1) := by decide +kernel
theorem dX4_firstLocked_10 : decode cX4_firstLocked 10 = .ok (.aload_n 0, 1) := by decide +kernel
theorem dX4_firstLocked_11 : decode cX4_firstLocked 11 = .ok (.getfield 44, 3) := by decide +kernel
theorem dX4_firstLocked_14 : decode cX4_firstLocked 14 = .ok (.iload_n 1, 1) := by decide +kernel
theorem dX4_firstLocked_15 : decode cX4_firstLocked 15 = .ok (.iaload, 1) := by decide +kernel
theorem dX4_firstLocked_16 : decode cX4_firstLocked 16 = .ok (.iadd, 1) := by decide +kernel
theorem dX4_firstLocked_17 : decode cX4_firstLocked 17 = .ok (.if_icmp .ge 45, 3) := by decide +kernel
theorem dX4_firstLocked_20 : decode cX4_firstLocked 20 = .ok (.aload_n 0, 1) := by decide +kernel
theorem dX4_firstLocked_21 : decode cX4_firstLocked 21 = .ok (.getfield 65, 3) := by decide +kernel
theorem dX4_firstLocked_24 : decode cX4_firstLocked 24 = .ok (.iload_n 2, 1) := by decide +kernel
theorem dX4_firstLocked_25 : decode cX4_firstLocked 25 = .ok (.baload, 1) := by decide +kernel
theorem dX4_firstLocked_26 : decode cX4_firstLocked 26 = .ok (.ifCond .eq 30, 3) := by decide +kernel
theorem dX4_firstLocked_29 : decode cX4_firstLocked 29 = .ok (.aload_n 0, 1) := by decide +kernel
theorem dX4_firstLocked_30 : decode cX4_firstLocked 30 = .ok (.getfield 32, 3) := by decide +kernel
theorem dX4_firstLocked_33 : decode cX4_firstLocked 33 = .ok (.bipush 8, 2) := by decide +kernel
theorem dX4_firstLocked_35 : decode cX4_firstLocked 35 = .ok (.aload_n 0, 1) := by decide +kernel
theorem dX4_firstLocked_36 : decode cX4_firstLocked 36 = .ok (.getfield 53, 3) := by decide +kernel
theorem dX4_firstLocked_39 : decode cX4_firstLocked 39 = .ok (.iload_n 2, 1) := by decide +kernel
theorem dX4_firstLocked_40 : decode cX4_firstLocked 40 = .ok (.iaload, 1) := by decide +kernel
theorem dX4_firstLocked_41 : decode cX4_firstLocked 41 = .ok (.imul, 1) := by decide +kernel
theorem dX4_firstLocked_42 : decode cX4_firstLocked 42 = .ok (.aload_n 0, 1) := by decide +kernel
theorem dX4_firstLocked_43 : decode cX4_firstLocked 43 = .ok (.getfield 56, 3) := by decide +kernel
theorem dX4_firstLocked_46 : decode cX4_firstLocked 46 = .ok (.iload_n 2, 1) := by decide +kernel
theorem dX4_firstLocked_47 : decode cX4_firstLocked 47 = .ok (.iaload, 1) := by decide +kernel
theorem dX4_firstLocked_48 : decode cX4_firstLocked 48 = .ok (.iadd, 1) := by decide +kernel
theorem dX4_firstLocked_49 : decode cX4_firstLocked 49 = .ok (.iaload, 1) := by decide +kernel
theorem dX4_firstLocked_50 : decode cX4_firstLocked 50 = .ok (.iload_n 1, 1) := by decide +kernel
theorem dX4_firstLocked_51 : decode cX4_firstLocked 51 = .ok (.if_icmp .ne 5, 3) := by decide +kernel
theorem dX4_firstLocked_54 : decode cX4_firstLocked 54 = .ok (.iload_n 2, 1) := by decide +kernel
theorem dX4_firstLocked_55 : decode cX4_firstLocked 55 = .ok (.ireturn, 1) := by decide +kernel
theorem dX4_firstLocked_56 : decode cX4_firstLocked 56 = .ok (.iinc 2 1, 3) := by decide +kernel
theorem dX4_firstLocked_59 : decode cX4_firstLocked 59 = .ok (.goto (-54), 3) := by decide +kernel
theorem dX4_firstLocked_62 : decode cX4_firstLocked 62 = .ok (.bipush (-9), 2) := by decide +kernel
theorem dX4_firstLocked_64 : decode cX4_firstLocked 64 = .ok (.ireturn, 1) := by decide +kernel
theorem dX4_isOver_0 : decode cX4_isOver 0 = .ok (.aload_n 0, 1) := by decide +kernel
theorem dX4_isOver_1 : decode cX4_isOver 1 = .ok (.getfield 38, 3) := by decide +kernel
theorem dX4_isOver_4 : decode cX4_isOver 4 = .ok (.iload_n 1, 1) := by decide +kernel
theorem dX4_isOver_5 : decode cX4_isOver 5 = .ok (.iaload, 1) := by decide +kernel
theorem dX4_isOver_6 : decode cX4_isOver 6 = .ok (.tableswitch 136 1 6 #[38, 61, 84, 38, 104, 120], 38) := by decide +kernel
theorem dX4_isOver_44 : decode cX4_isOver 44 = .ok (.aload_n 0, 1) := by decide +kernel
theorem dX4_isOver_45 : decode cX4_isOver 45 = .ok (.iload_n 1, 1) := by decide +kernel
theorem dX4_isOver_46 : decode cX4_isOver 46 = .ok (.aload_n 0, 1) := by decide +kernel
theorem dX4_isOver_47 : decode cX4_isOver 47 = .ok (.getfield 41, 3) := by decide +kernel
theorem dX4_isOver_50 : decode cX4_isOver 50 = .ok (.iload_n 1, 1) := by decide +kernel
theorem dX4_isOver_51 : decode cX4_isOver 51 = .ok (.iaload, 1) := by decide +kernel
theorem dX4_isOver_52 : decode cX4_isOver 52 = .ok (.iconst 1, 1) := by decide +kernel
theorem dX4_isOver_53 : decode cX4_isOver 53 = .ok (.invokevirtual 173, 3) := by decide +kernel
theorem dX4_isOver_56 : decode cX4_isOver 56 = .ok (.bipush (-9), 2) := by decide +kernel
theorem dX4_isOver_58 : decode cX4_isOver 58 = .ok (.if_icmp .ne 7, 3) := by decide +kernel
theorem dX4_isOver_61 : decode cX4_isOver 61 = .ok (.iconst 1, 1) := by decide +kernel
theorem dX4_isOver_62 : decode cX4_isOver 62 = .ok (.goto 4, 3) := by decide +kernel
theorem dX4_isOver_65 : decode cX4_isOver 65 = .ok (.iconst 0, 1) := by decide +kernel
theorem dX4_isOver_66 : decode cX4_isOver 66 = .ok (.ireturn, 1) := by decide +kernel
theorem dX4_isOver_67 : decode cX4_isOver 67 = .ok (.aload_n 0, 1) := by decide +kernel
theorem dX4_isOver_68 : decode cX4_isOver 68 = .ok (.iload_n 1, 1) := by decide +kernel
theorem dX4_isOver_69 : decode cX4_isOver 69 = .ok (.aload_n 0, 1) := by decide +kernel
theorem dX4_isOver_70 : decode cX4_isOver 70 = .ok (.getfield 41, 3) := by decide +kernel
theorem dX4_isOver_73 : decode cX4_isOver 73 = .ok (.iload_n 1, 1) := by decide +kernel
theorem dX4_isOver_74 : decode cX4_isOver 74 = .ok (.iaload, 1) := by decide +kernel
theorem dX4_isOver_75 : decode cX4_isOver 75 = .ok (.iconst 0, 1) := by decide +kernel
theorem dX4_isOver_76 : decode cX4_isOver 76 = .ok (.invokevirtual 173, 3) := by decide +kernel
theorem dX4_isOver_79 : decode cX4_isOver 79 = .ok (.bipush (-9), 2) := by decide +kernel
theorem dX4_isOver_81 : decode cX4_isOver 81 = .ok (.if_icmp .ne 7, 3) := by decide +kernel
theorem dX4_isOver_84 : decode cX4_isOver 84 = .ok (.iconst 1, 1) := by decide +kernel
theorem dX4_isOver_85 : decode cX4_isOver 85 = .ok (.goto 4, 3) := by decide +kernel
theorem dX4_isOver_88 : decode cX4_isOver 88 = .ok (.iconst 0, 1) := by decide +kernel
theorem dX4_isOver_89 : decode cX4_isOver 89 = .ok (.ireturn, 1) := by decide +kernel
theorem dX4_isOver_90 : decode cX4_isOver 90 = .ok (.aload_n 0, 1) := by decide +kernel
theorem dX4_isOver_91 : decode cX4_isOver 91 = .ok (.iload_n 1, 1) := by decide +kernel
theorem dX4_isOver_92 : decode cX4_isOver 92 = .ok (.aload_n 0, 1) := by decide +kernel
theorem dX4_isOver_93 : decode cX4_isOver 93 = .ok (.getfield 41, 3) := by decide +kernel
theorem dX4_isOver_96 : decode cX4_isOver 96 = .ok (.iload_n 1, 1) := by decide +kernel
theorem dX4_isOver_97 : decode cX4_isOver 97 = .ok (.iaload, 1) := by decide +kernel
theorem dX4_isOver_98 : decode cX4_isOver 98 = .ok (.invokevirtual 177, 3) := by decide +kernel
theorem dX4_isOver_101 : decode cX4_isOver 101 = .ok (.ifCond .ne 7, 3) := by decide +kernel
theorem dX4_isOver_104 : decode cX4_isOver 104 = .ok (.iconst 1, 1) := by decide +kernel
theorem dX4_isOver_105 : decode cX4_isOver 105 = .ok (.goto 4, 3) := by decide +kernel
theorem dX4_isOver_108 : decode cX4_isOver 108 = .ok (.iconst 0, 1) := by decide +kernel
theorem dX4_isOver_109 : decode cX4_isOver 109 = .ok (.ireturn, 1) := by decide +kernel
theorem dX4_isOver_110 : decode cX4_isOver 110 = .ok (.aload_n 0, 1) := by decide +kernel
theorem dX4_isOver_111 : decode cX4_isOver 111 = .ok (.iload_n 1, 1) := by decide +kernel
theorem dX4_isOver_112 : decode cX4_isOver 112 = .ok (.invokevirtual 180, 3) := by decide +kernel
theorem dX4_isOver_115 : decode cX4_isOver 115 = .ok (.bipush (-9), 2) := by decide +kernel
theorem dX4_isOver_117 : decode cX4_isOver 117 = .ok (.if_icmp .ne 7, 3) := by decide +kernel
theorem dX4_isOver_120 : decode cX4_isOver 120 = .ok (.iconst 1, 1) := by decide +kernel
theorem dX4_isOver_121 : decode cX4_isOver 121 = .ok (.goto 4, 3) := by decide +kernel
theorem dX4_isOver_124 : decode cX4_isOver 124 = .ok (.iconst 0, 1) := by decide +kernel
theorem dX4_isOver_125 : decode cX4_isOver 125 = .ok (.ireturn, 1) := by decide +kernel
theorem dX4_isOver_126 : decode cX4_isOver 126 = .ok (.aload_n 0, 1) := by decide +kernel
theorem dX4_isOver_127 : decode cX4_isOver 127 = .ok (.iload_n 1, 1) := by decide +kernel
theorem dX4_isOver_128 : decode cX4_isOver 128 = .ok (.invokevirtual 183, 3) := by decide +kernel
theorem dX4_isOver_131 : decode cX4_isOver 131 = .ok (.bipush (-9), 2) := by decide +kernel
theorem dX4_isOver_133 : decode cX4_isOver 133 = .ok (.if_icmp .ne 7, 3) := by decide +kernel
theorem dX4_isOver_136 : decode cX4_isOver 136 = .ok (.iconst 1, 1) := by decide +kernel
theorem dX4_isOver_137 : decode cX4_isOver 137 = .ok (.goto 4, 3) := by decide +kernel
theorem dX4_isOver_140 : decode cX4_isOver 140 = .ok (.iconst 0, 1) := by decide +kernel
theorem dX4_isOver_141 : decode cX4_isOver 141 = .ok (.ireturn, 1) := by decide +kernel
theorem dX4_isOver_142 : decode cX4_isOver 142 = .ok (.iconst 0, 1) := by decide +kernel
theorem dX4_isOver_143 : decode cX4_isOver 143 = .ok (.ireturn, 1) := by decide +kernel
theorem dX4_settle_0 : decode cX4_settle 0 = .ok (.aload_n 0, 1) := by decide +kernel
theorem dX4_settle_1 : decode cX4_settle 1 = .ok (.iload_n 1, 1) := by decide +kernel
theorem dX4_settle_2 : decode cX4_settle 2 = .ok (.invokevirtual 186, 3) := by decide +kernel
theorem dX4_settle_5 : decode cX4_settle 5 = .ok (.ifCond .eq 88, 3) := by decide +kernel
theorem dX4_settle_8 : decode cX4_settle 8 = .ok (.aload_n 0, 1) := by decide +kernel
theorem dX4_settle_9 : decode cX4_settle 9 = .ok (.getfield 38, 3) := by decide +kernel
theorem dX4_settle_12 : decode cX4_settle 12 = .ok (.iload_n 1, 1) := by decide +kernel
theorem dX4_settle_13 : decode cX4_settle 13 = .ok (.iaload, 1) := by decide +kernel
theorem dX4_settle_14 : decode cX4_settle 14 = .ok (.istore_n 2, 1) := by decide +kernel
theorem dX4_settle_15 : decode cX4_settle 15 = .ok (.aload_n 0, 1) := by decide +kernel
theorem dX4_settle_16 : decode cX4_settle 16 = .ok (.getfield 41, 3) := by decide +kernel
theorem dX4_settle_19 : decode cX4_settle 19 = .ok (.iload_n 1, 1) := by decide +kernel
theorem dX4_settle_20 : decode cX4_settle 20 = .ok (.iconst 0, 1) := by decide +kernel
theorem dX4_settle_21 : decode cX4_settle 21 = .ok (.iastore, 1) := by decide +kernel
theorem dX4_settle_22 : decode cX4_settle 22 = .ok (.iload_n 2, 1) := by decide +kernel
theorem dX4_settle_23 : decode cX4_settle 23 = .ok (.iconst 1, 1) := by decide +kernel
theorem dX4_settle_24 : decode cX4_settle 24 = .ok (.if_icmp .ne 23, 3) := by decide +kernel
theorem dX4_settle_27 : decode cX4_settle 27 = .ok (.aload_n 0, 1) := by decide +kernel
theorem dX4_settle_28 : decode cX4_settle 28 = .ok (.dup, 1) := by decide +kernel
theorem dX4_settle_29 : decode cX4_settle 29 = .ok (.getfield 189, 3) := by decide +kernel
theorem dX4_settle_32 : decode cX4_settle 32 = .ok (.iconst 1, 1) := by decide +kernel
theorem dX4_settle_33 : decode cX4_settle 33 = .ok (.iadd, 1) := by decide +kernel
theorem dX4_settle_34 : decode cX4_settle 34 = .ok (.putfield 189, 3) := by decide +kernel
theorem dX4_settle_37 : decode cX4_settle 37 = .ok (.aload_n 0, 1) := by decide +kernel
theorem dX4_settle_38 : decode cX4_settle 38 = .ok (.getfield 50, 3) := by decide +kernel
theorem dX4_settle_41 : decode cX4_settle 41 = .ok (.iload_n 1, 1) := by decide +kernel
theorem dX4_settle_42 : decode cX4_settle 42 = .ok (.aload_n 0, 1) := by decide +kernel
theorem dX4_settle_43 : decode cX4_settle 43 = .ok (.getfield 189, 3) := by decide +kernel
theorem dX4_settle_46 : decode cX4_settle 46 = .ok (.iastore, 1) := by decide +kernel
theorem dX4_settle_47 : decode cX4_settle 47 = .ok (.aload_n 0, 1) := by decide +kernel
theorem dX4_settle_48 : decode cX4_settle 48 = .ok (.getfield 38, 3) := by decide +kernel
theorem dX4_settle_51 : decode cX4_settle 51 = .ok (.iload_n 1, 1) := by decide +kernel
theorem dX4_settle_52 : decode cX4_settle 52 = .ok (.iload_n 2, 1) := by decide +kernel
theorem dX4_settle_53 : decode cX4_settle 53 = .ok (.iconst 2, 1) := by decide +kernel
theorem dX4_settle_54 : decode cX4_settle 54 = .ok (.if_icmp .ne 11, 3) := by decide +kernel
theorem dX4_settle_57 : decode cX4_settle 57 = .ok (.aload_n 0, 1) := by decide +kernel
theorem dX4_settle_58 : decode cX4_settle 58 = .ok (.iload_n 1, 1) := by decide +kernel
theorem dX4_settle_59 : decode cX4_settle 59 = .ok (.invokevirtual 161, 3) := by decide +kernel
theorem dX4_settle_62 : decode cX4_settle 62 = .ok (.ifCond .eq 8, 3) := by decide +kernel
theorem dX4_settle_65 : decode cX4_settle 65 = .ok (.iload_n 2, 1) := by decide +kernel
theorem dX4_settle_66 : decode cX4_settle 66 = .ok (.iconst 5, 1) := by decide +kernel
theorem dX4_settle_67 : decode cX4_settle 67 = .ok (.if_icmp .ne 8, 3) := by decide +kernel
theorem dX4_settle_70 : decode cX4_settle 70 = .ok (.bipush 7, 2) := by decide +kernel
theorem dX4_settle_72 : decode cX4_settle 72 = .ok (.goto 17, 3) := by decide +kernel
theorem dX4_settle_75 : decode cX4_settle 75 = .ok (.iload_n 2, 1) := by decide +kernel
theorem dX4_settle_76 : decode cX4_settle 76 = .ok (.bipush 6, 2) := by decide +kernel
theorem dX4_settle_78 : decode cX4_settle 78 = .ok (.if_icmp .ne 8, 3) := by decide +kernel
theorem dX4_settle_81 : decode cX4_settle 81 = .ok (.bipush 8, 2) := by decide +kernel
theorem dX4_settle_83 : decode cX4_settle 83 = .ok (.goto 6, 3) := by decide +kernel
theorem dX4_settle_86 : decode cX4_settle 86 = .ok (.iload_n 2, 1) := by decide +kernel
theorem dX4_settle_87 : decode cX4_settle 87 = .ok (.iconst 1, 1) := by decide +kernel
theorem dX4_settle_88 : decode cX4_settle 88 = .ok (.iadd, 1) := by decide +kernel
theorem dX4_settle_89 : decode cX4_settle 89 = .ok (.iastore, 1) := by decide +kernel
theorem dX4_settle_90 : decode cX4_settle 90 = .ok (.goto (-90), 3) := by decide +kernel
theorem dX4_settle_93 : decode cX4_settle 93 = .ok (.return_, 1) := by decide +kernel
theorem dX4_commit_0 : decode cX4_commit 0 = .ok (.aload_n 0, 1) := by decide +kernel
theorem dX4_commit_1 : decode cX4_commit 1 = .ok (.iload_n 1, 1) := by decide +kernel
theorem dX4_commit_2 : decode cX4_commit 2 = .ok (.invokevirtual 143, 3) := by decide +kernel
theorem dX4_commit_5 : decode cX4_commit 5 = .ok (.ifCond .ne 5, 3) := by decide +kernel
theorem dX4_commit_8 : decode cX4_commit 8 = .ok (.iconst (-1), 1) := by decide +kernel
theorem dX4_commit_9 : decode cX4_commit 9 = .ok (.ireturn, 1) := by decide +kernel
theorem dX4_commit_10 : decode cX4_commit 10 = .ok (.aload_n 0, 1) := by decide +kernel
theorem dX4_commit_11 : decode cX4_commit 11 = .ok (.getfield 38, 3) := by decide +kernel
theorem dX4_commit_14 : decode cX4_commit 14 = .ok (.iload_n 1, 1) := by decide +kernel
theorem dX4_commit_15 : decode cX4_commit 15 = .ok (.iaload, 1) := by decide +kernel
theorem dX4_commit_16 : decode cX4_commit 16 = .ok (.ifCond .eq 6, 3) := by decide +kernel
theorem dX4_commit_19 : decode cX4_commit 19 = .ok (.bipush (-3), 2) := by decide +kernel
theorem dX4_commit_21 : decode cX4_commit 21 = .ok (.ireturn, 1) := by decide +kernel
theorem dX4_commit_22 : decode cX4_commit 22 = .ok (.aload_n 0, 1) := by decide +kernel
theorem dX4_commit_23 : decode cX4_commit 23 = .ok (.getfield 7, 3) := by decide +kernel
theorem dX4_commit_26 : decode cX4_commit 26 = .ok (.aload_n 0, 1) := by decide +kernel
theorem dX4_commit_27 : decode cX4_commit 27 = .ok (.getfield 35, 3) := by decide +kernel
theorem dX4_commit_30 : decode cX4_commit 30 = .ok (.iload_n 1, 1) := by decide +kernel
theorem dX4_commit_31 : decode cX4_commit 31 = .ok (.iaload, 1) := by decide +kernel
theorem dX4_commit_32 : decode cX4_commit 32 = .ok (.baload, 1) := by decide +kernel
theorem dX4_commit_33 : decode cX4_commit 33 = .ok (.ifCond .ne 6, 3) := by decide +kernel
theorem dX4_commit_36 : decode cX4_commit 36 = .ok (.bipush (-6), 2) := by decide +kernel
theorem dX4_commit_38 : decode cX4_commit 38 = .ok (.ireturn, 1) := by decide +kernel
theorem dX4_commit_39 : decode cX4_commit 39 = .ok (.aload_n 0, 1) := by decide +kernel
theorem dX4_commit_40 : decode cX4_commit 40 = .ok (.getfield 38, 3) := by decide +kernel
theorem dX4_commit_43 : decode cX4_commit 43 = .ok (.iload_n 1, 1) := by decide +kernel
theorem dX4_commit_44 : decode cX4_commit 44 = .ok (.iconst 1, 1) := by decide +kernel
theorem dX4_commit_45 : decode cX4_commit 45 = .ok (.iastore, 1) := by decide +kernel
theorem dX4_commit_46 : decode cX4_commit 46 = .ok (.aload_n 0, 1) := by decide +kernel
theorem dX4_commit_47 : decode cX4_commit 47 = .ok (.getfield 41, 3) := by decide +kernel
theorem dX4_commit_50 : decode cX4_commit 50 = .ok (.iload_n 1, 1) := by decide +kernel
theorem dX4_commit_51 : decode cX4_commit 51 = .ok (.iconst 0, 1) := by decide +kernel
theorem dX4_commit_52 : decode cX4_commit 52 = .ok (.iastore, 1) := by decide +kernel
theorem dX4_commit_53 : decode cX4_commit 53 = .ok (.aload_n 0, 1) := by decide +kernel
theorem dX4_commit_54 : decode cX4_commit 54 = .ok (.iload_n 1, 1) := by decide +kernel
theorem dX4_commit_55 : decode cX4_commit 55 = .ok (.invokevirtual 192, 3) := by decide +kernel
theorem dX4_commit_58 : decode cX4_commit 58 = .ok (.aload_n 0, 1) := by decide +kernel
theorem dX4_commit_59 : decode cX4_commit 59 = .ok (.getfield 38, 3) := by decide +kernel
theorem dX4_commit_62 : decode cX4_commit 62 = .ok (.iload_n 1, 1) := by decide +kernel
theorem dX4_commit_63 : decode cX4_commit 63 = .ok (.iaload, 1) := by decide +kernel
theorem dX4_commit_64 : decode cX4_commit 64 = .ok (.ireturn, 1) := by decide +kernel
theorem dX4_drop_0 : decode cX4_drop 0 = .ok (.aload_n 0, 1) := by decide +kernel
theorem dX4_drop_1 : decode cX4_drop 1 = .ok (.iload_n 1, 1) := by decide +kernel
theorem dX4_drop_2 : decode cX4_drop 2 = .ok (.invokevirtual 143, 3) := by decide +kernel
theorem dX4_drop_5 : decode cX4_drop 5 = .ok (.ifCond .ne 5, 3) := by decide +kernel
theorem dX4_drop_8 : decode cX4_drop 8 = .ok (.iconst (-1), 1) := by decide +kernel
theorem dX4_drop_9 : decode cX4_drop 9 = .ok (.ireturn, 1) := by decide +kernel
theorem dX4_drop_10 : decode cX4_drop 10 = .ok (.aload_n 0, 1) := by decide +kernel
theorem dX4_drop_11 : decode cX4_drop 11 = .ok (.getfield 38, 3) := by decide +kernel
theorem dX4_drop_14 : decode cX4_drop 14 = .ok (.iload_n 1, 1) := by decide +kernel
theorem dX4_drop_15 : decode cX4_drop 15 = .ok (.iaload, 1) := by decide +kernel
theorem dX4_drop_16 : decode cX4_drop 16 = .ok (.ifCond .eq 6, 3) := by decide +kernel
theorem dX4_drop_19 : decode cX4_drop 19 = .ok (.bipush (-3), 2) := by decide +kernel
theorem dX4_drop_21 : decode cX4_drop 21 = .ok (.ireturn, 1) := by decide +kernel
theorem dX4_drop_22 : decode cX4_drop 22 = .ok (.aload_n 0, 1) := by decide +kernel
theorem dX4_drop_23 : decode cX4_drop 23 = .ok (.getfield 7, 3) := by decide +kernel
theorem dX4_drop_26 : decode cX4_drop 26 = .ok (.aload_n 0, 1) := by decide +kernel
theorem dX4_drop_27 : decode cX4_drop 27 = .ok (.getfield 35, 3) := by decide +kernel
theorem dX4_drop_30 : decode cX4_drop 30 = .ok (.iload_n 1, 1) := by decide +kernel
theorem dX4_drop_31 : decode cX4_drop 31 = .ok (.iaload, 1) := by decide +kernel
theorem dX4_drop_32 : decode cX4_drop 32 = .ok (.baload, 1) := by decide +kernel
theorem dX4_drop_33 : decode cX4_drop 33 = .ok (.ifCond .ne 6, 3) := by decide +kernel
theorem dX4_drop_36 : decode cX4_drop 36 = .ok (.bipush (-6), 2) := by decide +kernel
theorem dX4_drop_38 : decode cX4_drop 38 = .ok (.ireturn, 1) := by decide +kernel
theorem dX4_drop_39 : decode cX4_drop 39 = .ok (.aload_n 0, 1) := by decide +kernel
theorem dX4_drop_40 : decode cX4_drop 40 = .ok (.getfield 38, 3) := by decide +kernel
theorem dX4_drop_43 : decode cX4_drop 43 = .ok (.iload_n 1, 1) := by decide +kernel
theorem dX4_drop_44 : decode cX4_drop 44 = .ok (.bipush 8, 2) := by decide +kernel
theorem dX4_drop_46 : decode cX4_drop 46 = .ok (.iastore, 1) := by decide +kernel
theorem dX4_drop_47 : decode cX4_drop 47 = .ok (.bipush 8, 2) := by decide +kernel
theorem dX4_drop_49 : decode cX4_drop 49 = .ok (.ireturn, 1) := by decide +kernel
theorem dX4_actItem_0 : decode cX4_actItem 0 = .ok (.aload_n 0, 1) := by decide +kernel
theorem dX4_actItem_1 : decode cX4_actItem 1 = .ok (.getfield 38, 3) := by decide +kernel
theorem dX4_actItem_4 : decode cX4_actItem 4 = .ok (.iload_n 1, 1) := by decide +kernel
theorem dX4_actItem_5 : decode cX4_actItem 5 = .ok (.iaload, 1) := by decide +kernel
theorem dX4_actItem_6 : decode cX4_actItem 6 = .ok (.istore_n 2, 1) := by decide +kernel
theorem dX4_actItem_7 : decode cX4_actItem 7 = .ok (.iload_n 2, 1) := by decide +kernel
theorem dX4_actItem_8 : decode cX4_actItem 8 = .ok (.iconst 3, 1) := by decide +kernel
theorem dX4_actItem_9 : decode cX4_actItem 9 = .ok (.if_icmp .ne 28, 3) := by decide +kernel
theorem dX4_actItem_12 : decode cX4_actItem 12 = .ok (.aload_n 0, 1) := by decide +kernel
theorem dX4_actItem_13 : decode cX4_actItem 13 = .ok (.iload_n 1, 1) := by decide +kernel
theorem dX4_actItem_14 : decode cX4_actItem 14 = .ok (.aload_n 0, 1) := by decide +kernel
theorem dX4_actItem_15 : decode cX4_actItem 15 = .ok (.getfield 41, 3) := by decide +kernel
theorem dX4_actItem_18 : decode cX4_actItem 18 = .ok (.iload_n 1, 1) := by decide +kernel
theorem dX4_actItem_19 : decode cX4_actItem 19 = .ok (.iaload, 1) := by decide +kernel
theorem dX4_actItem_20 : decode cX4_actItem 20 = .ok (.invokevirtual 177, 3) := by decide +kernel
theorem dX4_actItem_23 : decode cX4_actItem 23 = .ok (.istore_n 3, 1) := by decide +kernel
theorem dX4_actItem_24 : decode cX4_actItem 24 = .ok (.aload_n 0, 1) := by decide +kernel
theorem dX4_actItem_25 : decode cX4_actItem 25 = .ok (.aload_n 0, 1) := by decide +kernel
theorem dX4_actItem_26 : decode cX4_actItem 26 = .ok (.getfield 167, 3) := by decide +kernel
theorem dX4_actItem_29 : decode cX4_actItem 29 = .ok (.putfield 196, 3) := by decide +kernel
theorem dX4_actItem_32 : decode cX4_actItem 32 = .ok (.aload_n 0, 1) := by decide +kernel
theorem dX4_actItem_33 : decode cX4_actItem 33 = .ok (.getfield 164, 3) := by decide +kernel
theorem dX4_actItem_36 : decode cX4_actItem 36 = .ok (.ireturn, 1) := by decide +kernel
theorem dX4_actItem_37 : decode cX4_actItem 37 = .ok (.iload_n 2, 1) := by decide +kernel
theorem dX4_actItem_38 : decode cX4_actItem 38 = .ok (.iconst 5, 1) := by decide +kernel
theorem dX4_actItem_39 : decode cX4_actItem 39 = .ok (.if_icmp .ne 26, 3) := by decide +kernel
theorem dX4_actItem_42 : decode cX4_actItem 42 = .ok (.aload_n 0, 1) := by decide +kernel
theorem dX4_actItem_43 : decode cX4_actItem 43 = .ok (.iload_n 1, 1) := by decide +kernel
theorem dX4_actItem_44 : decode cX4_actItem 44 = .ok (.invokevirtual 180, 3) := by decide +kernel
theorem dX4_actItem_47 : decode cX4_actItem 47 = .ok (.istore_n 3, 1) := by decide +kernel
theorem dX4_actItem_48 : decode cX4_actItem 48 = .ok (.aload_n 0, 1) := by decide +kernel
theorem dX4_actItem_49 : decode cX4_actItem 49 = .ok (.aload_n 0, 1) := by decide +kernel
theorem dX4_actItem_50 : decode cX4_actItem 50 = .ok (.getfield 77, 3) := by decide +kernel
theorem dX4_actItem_53 : decode cX4_actItem 53 = .ok (.iload_n 3, 1) := by decide +kernel
theorem dX4_actItem_54 : decode cX4_actItem 54 = .ok (.iaload, 1) := by decide +kernel
theorem dX4_actItem_55 : decode cX4_actItem 55 = .ok (.putfield 196, 3) := by decide +kernel
theorem dX4_actItem_58 : decode cX4_actItem 58 = .ok (.aload_n 0, 1) := by decide +kernel
theorem dX4_actItem_59 : decode cX4_actItem 59 = .ok (.getfield 74, 3) := by decide +kernel
theorem dX4_actItem_62 : decode cX4_actItem 62 = .ok (.iload_n 3, 1) := by decide +kernel
theorem dX4_actItem_63 : decode cX4_actItem 63 = .ok (.iaload, 1) := by decide +kernel
theorem dX4_actItem_64 : decode cX4_actItem 64 = .ok (.ireturn, 1) := by decide +kernel
theorem dX4_actItem_65 : decode cX4_actItem 65 = .ok (.iload_n 2, 1) := by decide +kernel
theorem dX4_actItem_66 : decode cX4_actItem 66 = .ok (.bipush 6, 2) := by decide +kernel
theorem dX4_actItem_68 : decode cX4_actItem 68 = .ok (.if_icmp .ne 11, 3) := by decide +kernel
theorem dX4_actItem_71 : decode cX4_actItem 71 = .ok (.aload_n 0, 1) := by decide +kernel
theorem dX4_actItem_72 : decode cX4_actItem 72 = .ok (.iload_n 1, 1) := by decide +kernel
theorem dX4_actItem_73 : decode cX4_actItem 73 = .ok (.invokevirtual 183, 3) := by decide +kernel
theorem dX4_actItem_76 : decode cX4_actItem 76 = .ok (.goto 24, 3) := by decide +kernel
theorem dX4_actItem_79 : decode cX4_actItem 79 = .ok (.aload_n 0, 1) := by decide +kernel
theorem dX4_actItem_80 : decode cX4_actItem 80 = .ok (.iload_n 1, 1) := by decide +kernel
theorem dX4_actItem_81 : decode cX4_actItem 81 = .ok (.aload_n 0, 1) := by decide +kernel
theorem dX4_actItem_82 : decode cX4_actItem 82 = .ok (.getfield 41, 3) := by decide +kernel
theorem dX4_actItem_85 : decode cX4_actItem 85 = .ok (.iload_n 1, 1) := by decide +kernel
theorem dX4_actItem_86 : decode cX4_actItem 86 = .ok (.iaload, 1) := by decide +kernel
theorem dX4_actItem_87 : decode cX4_actItem 87 = .ok (.iload_n 2, 1) := by decide +kernel
theorem dX4_actItem_88 : decode cX4_actItem 88 = .ok (.iconst 2, 1) := by decide +kernel
theorem dX4_actItem_89 : decode cX4_actItem 89 = .ok (.if_icmp .eq 7, 3) := by decide +kernel
theorem dX4_actItem_92 : decode cX4_actItem 92 = .ok (.iconst 1, 1) := by decide +kernel
theorem dX4_actItem_93 : decode cX4_actItem 93 = .ok (.goto 4, 3) := by decide +kernel
theorem dX4_actItem_96 : decode cX4_actItem 96 = .ok (.iconst 0, 1) := by decide +kernel
theorem dX4_actItem_97 : decode cX4_actItem 97 = .ok (.invokevirtual 173, 3) := by decide +kernel
theorem dX4_actItem_100 : decode cX4_actItem 100 = .ok (.istore_n 3, 1) := by decide +kernel
theorem dX4_actItem_101 : decode cX4_actItem 101 = .ok (.aload_n 0, 1) := by decide +kernel
theorem dX4_actItem_102 : decode cX4_actItem 102 = .ok (.aload_n 0, 1) := by decide +kernel
theorem dX4_actItem_103 : decode cX4_actItem 103 = .ok (.aload_n 0, 1) := by decide +kernel
theorem dX4_actItem_104 : decode cX4_actItem 104 = .ok (.getfield 53, 3) := by decide +kernel
theorem dX4_actItem_107 : decode cX4_actItem 107 = .ok (.iload_n 3, 1) := by decide +kernel
theorem dX4_actItem_108 : decode cX4_actItem 108 = .ok (.iaload, 1) := by decide +kernel
theorem dX4_actItem_109 : decode cX4_actItem 109 = .ok (.invokevirtual 124, 3) := by decide +kernel
theorem dX4_actItem_112 : decode cX4_actItem 112 = .ok (.putfield 196, 3) := by decide +kernel
theorem dX4_actItem_115 : decode cX4_actItem 115 = .ok (.iload_n 3, 1) := by decide +kernel
theorem dX4_actItem_116 : decode cX4_actItem 116 = .ok (.ireturn, 1) := by decide +kernel
theorem dX4_give_0 : decode cX4_give 0 = .ok (.bipush 8, 2) := by decide +kernel
theorem dX4_give_2 : decode cX4_give 2 = .ok (.bipush 6, 2) := by decide +kernel
theorem dX4_give_4 : decode cX4_give 4 = .ok (.aload_n 0, 1) := by decide +kernel
theorem dX4_give_5 : decode cX4_give 5 = .ok (.getfield 53, 3) := by decide +kernel
theorem dX4_give_8 : decode cX4_give 8 = .ok (.iload_n 1, 1) := by decide +kernel
theorem dX4_give_9 : decode cX4_give 9 = .ok (.iaload, 1) := by decide +kernel
theorem dX4_give_10 : decode cX4_give 10 = .ok (.imul, 1) := by decide +kernel
theorem dX4_give_11 : decode cX4_give 11 = .ok (.iload_n 2, 1) := by decide +kernel
theorem dX4_give_12 : decode cX4_give 12 = .ok (.iadd, 1) := by decide +kernel
theorem dX4_give_13 : decode cX4_give 13 = .ok (.imul, 1) := by decide +kernel
theorem dX4_give_14 : decode cX4_give 14 = .ok (.aload_n 0, 1) := by decide +kernel
theorem dX4_give_15 : decode cX4_give 15 = .ok (.getfield 56, 3) := by decide +kernel
theorem dX4_give_18 : decode cX4_give 18 = .ok (.iload_n 1, 1) := by decide +kernel
theorem dX4_give_19 : decode cX4_give 19 = .ok (.iaload, 1) := by decide +kernel
theorem dX4_give_20 : decode cX4_give 20 = .ok (.iadd, 1) := by decide +kernel
theorem dX4_give_21 : decode cX4_give 21 = .ok (.istore 4, 2) := by decide +kernel
theorem dX4_give_23 : decode cX4_give 23 = .ok (.iload_n 3, 1) := by decide +kernel
theorem dX4_give_24 : decode cX4_give 24 = .ok (.ifCond .ne 19, 3) := by decide +kernel
theorem dX4_give_27 : decode cX4_give 27 = .ok (.aload_n 0, 1) := by decide +kernel
theorem dX4_give_28 : decode cX4_give 28 = .ok (.getfield 29, 3) := by decide +kernel
theorem dX4_give_31 : decode cX4_give 31 = .ok (.iload 4, 2) := by decide +kernel
theorem dX4_give_33 : decode cX4_give 33 = .ok (.iaload, 1) := by decide +kernel
theorem dX4_give_34 : decode cX4_give 34 = .ok (.aload_n 0, 1) := by decide +kernel
theorem dX4_give_35 : decode cX4_give 35 = .ok (.getfield 62, 3) := by decide +kernel
theorem dX4_give_38 : decode cX4_give 38 = .ok (.iload_n 1, 1) := by decide +kernel
theorem dX4_give_39 : decode cX4_give 39 = .ok (.iaload, 1) := by decide +kernel
theorem dX4_give_40 : decode cX4_give 40 = .ok (.if_icmp .gt 31, 3) := by decide +kernel
theorem dX4_give_43 : decode cX4_give 43 = .ok (.aload_n 0, 1) := by decide +kernel
theorem dX4_give_44 : decode cX4_give 44 = .ok (.getfield 26, 3) := by decide +kernel
theorem dX4_give_47 : decode cX4_give 47 = .ok (.iload 4, 2) := by decide +kernel
theorem dX4_give_49 : decode cX4_give 49 = .ok (.aload_n 0, 1) := by decide +kernel
theorem dX4_give_50 : decode cX4_give 50 = .ok (.getfield 68, 3) := by decide +kernel
theorem dX4_give_53 : decode cX4_give 53 = .ok (.iload_n 1, 1) := by decide +kernel
theorem dX4_give_54 : decode cX4_give 54 = .ok (.iaload, 1) := by decide +kernel
theorem dX4_give_55 : decode cX4_give 55 = .ok (.iastore, 1) := by decide +kernel
theorem dX4_give_56 : decode cX4_give 56 = .ok (.aload_n 0, 1) := by decide +kernel
theorem dX4_give_57 : decode cX4_give 57 = .ok (.getfield 29, 3) := by decide +kernel
theorem dX4_give_60 : decode cX4_give 60 = .ok (.iload 4, 2) := by decide +kernel
theorem dX4_give_62 : decode cX4_give 62 = .ok (.aload_n 0, 1) := by decide +kernel
theorem dX4_give_63 : decode cX4_give 63 = .ok (.getfield 62, 3) := by decide +kernel
theorem dX4_give_66 : decode cX4_give 66 = .ok (.iload_n 1, 1) := by decide +kernel
theorem dX4_give_67 : decode cX4_give 67 = .ok (.iaload, 1) := by decide +kernel
theorem dX4_give_68 : decode cX4_give 68 = .ok (.iconst 1, 1) := by decide +kernel
theorem dX4_give_69 : decode cX4_give 69 = .ok (.iadd, 1) := by decide +kernel
theorem dX4_give_70 : decode cX4_give 70 = .ok (.iastore, 1) := by decide +kernel
theorem dX4_give_71 : decode cX4_give 71 = .ok (.return_, 1) := by decide +kernel
theorem dX4_act_0 : decode cX4_act 0 = .ok (.bipush 8, 2) := by decide +kernel
theorem dX4_act_2 : decode cX4_act 2 = .ok (.aload_n 0, 1) := by decide +kernel
theorem dX4_act_3 : decode cX4_act 3 = .ok (.getfield 53, 3) := by decide +kernel
theorem dX4_act_6 : decode cX4_act 6 = .ok (.iload_n 2, 1) := by decide +kernel
theorem dX4_act_7 : decode cX4_act 7 = .ok (.iaload, 1) := by decide +kernel
theorem dX4_act_8 : decode cX4_act 8 = .ok (.imul, 1) := by decide +kernel
theorem dX4_act_9 : decode cX4_act 9 = .ok (.aload_n 0, 1) := by decide +kernel
theorem dX4_act_10 : decode cX4_act 10 = .ok (.getfield 56, 3) := by decide +kernel
theorem dX4_act_13 : decode cX4_act 13 = .ok (.iload_n 2, 1) := by decide +kernel
theorem dX4_act_14 : decode cX4_act 14 = .ok (.iaload, 1) := by decide +kernel
theorem dX4_act_15 : decode cX4_act 15 = .ok (.iadd, 1) := by decide +kernel
theorem dX4_act_16 : decode cX4_act 16 = .ok (.istore 4, 2) := by decide +kernel
theorem dX4_act_18 : decode cX4_act 18 = .ok (.aload_n 0, 1) := by decide +kernel
theorem dX4_act_19 : decode cX4_act 19 = .ok (.getfield 29, 3) := by decide +kernel
theorem dX4_act_22 : decode cX4_act 22 = .ok (.bipush 8, 2) := by decide +kernel
theorem dX4_act_24 : decode cX4_act 24 = .ok (.bipush 6, 2) := by decide +kernel
theorem dX4_act_26 : decode cX4_act 26 = .ok (.aload_n 0, 1) := by decide +kernel
theorem dX4_act_27 : decode cX4_act 27 = .ok (.getfield 53, 3) := by decide +kernel
theorem dX4_act_30 : decode cX4_act 30 = .ok (.iload_n 2, 1) := by decide +kernel
theorem dX4_act_31 : decode cX4_act 31 = .ok (.iaload, 1) := by decide +kernel
theorem dX4_act_32 : decode cX4_act 32 = .ok (.imul, 1) := by decide +kernel
theorem dX4_act_33 : decode cX4_act 33 = .ok (.iload_n 3, 1) := by decide +kernel
theorem dX4_act_34 : decode cX4_act 34 = .ok (.iadd, 1) := by decide +kernel
theorem dX4_act_35 : decode cX4_act 35 = .ok (.imul, 1) := by decide +kernel
theorem dX4_act_36 : decode cX4_act 36 = .ok (.aload_n 0, 1) := by decide +kernel
theorem dX4_act_37 : decode cX4_act 37 = .ok (.getfield 56, 3) := by decide +kernel
theorem dX4_act_40 : decode cX4_act 40 = .ok (.iload_n 2, 1) := by decide +kernel
theorem dX4_act_41 : decode cX4_act 41 = .ok (.iaload, 1) := by decide +kernel
theorem dX4_act_42 : decode cX4_act 42 = .ok (.iadd, 1) := by decide +kernel
theorem dX4_act_43 : decode cX4_act 43 = .ok (.iaload, 1) := by decide +kernel
theorem dX4_act_44 : decode cX4_act 44 = .ok (.aload_n 0, 1) := by decide +kernel
theorem dX4_act_45 : decode cX4_act 45 = .ok (.getfield 62, 3) := by decide +kernel
theorem dX4_act_48 : decode cX4_act 48 = .ok (.iload_n 2, 1) := by decide +kernel
theorem dX4_act_49 : decode cX4_act 49 = .ok (.iaload, 1) := by decide +kernel
theorem dX4_act_50 : decode cX4_act 50 = .ok (.if_icmp .eq 7, 3) := by decide +kernel
theorem dX4_act_53 : decode cX4_act 53 = .ok (.iconst 1, 1) := by decide +kernel
theorem dX4_act_54 : decode cX4_act 54 = .ok (.goto 4, 3) := by decide +kernel
theorem dX4_act_57 : decode cX4_act 57 = .ok (.iconst 0, 1) := by decide +kernel
theorem dX4_act_58 : decode cX4_act 58 = .ok (.istore 5, 2) := by decide +kernel
theorem dX4_act_60 : decode cX4_act 60 = .ok (.aload_n 0, 1) := by decide +kernel
theorem dX4_act_61 : decode cX4_act 61 = .ok (.getfield 38, 3) := by decide +kernel
theorem dX4_act_64 : decode cX4_act 64 = .ok (.iload_n 1, 1) := by decide +kernel
theorem dX4_act_65 : decode cX4_act 65 = .ok (.iaload, 1) := by decide +kernel
theorem dX4_act_66 : decode cX4_act 66 = .ok (.tableswitch 206 1 5 #[34, 73, 101, 134, 172], 34) := by decide +kernel
theorem dX4_act_100 : decode cX4_act 100 = .ok (.aload_n 0, 1) := by decide +kernel
theorem dX4_act_101 : decode cX4_act 101 = .ok (.getfield 32, 3) := by decide +kernel
theorem dX4_act_104 : decode cX4_act 104 = .ok (.iload 4, 2) := by decide +kernel
theorem dX4_act_106 : decode cX4_act 106 = .ok (.iaload, 1) := by decide +kernel
theorem dX4_act_107 : decode cX4_act 107 = .ok (.bipush (-9), 2) := by decide +kernel
theorem dX4_act_109 : decode cX4_act 109 = .ok (.if_icmp .ne 8, 3) := by decide +kernel
theorem dX4_act_112 : decode cX4_act 112 = .ok (.iload 5, 2) := by decide +kernel
theorem dX4_act_114 : decode cX4_act 114 = .ok (.ifCond .eq 14, 3) := by decide +kernel
theorem dX4_act_117 : decode cX4_act 117 = .ok (.aload_n 0, 1) := by decide +kernel
theorem dX4_act_118 : decode cX4_act 118 = .ok (.getfield 38, 3) := by decide +kernel
theorem dX4_act_121 : decode cX4_act 121 = .ok (.iload_n 1, 1) := by decide +kernel
theorem dX4_act_122 : decode cX4_act 122 = .ok (.bipush 6, 2) := by decide +kernel
theorem dX4_act_124 : decode cX4_act 124 = .ok (.iastore, 1) := by decide +kernel
theorem dX4_act_125 : decode cX4_act 125 = .ok (.goto 156, 3) := by decide +kernel
theorem dX4_act_128 : decode cX4_act 128 = .ok (.aload_n 0, 1) := by decide +kernel
theorem dX4_act_129 : decode cX4_act 129 = .ok (.getfield 32, 3) := by decide +kernel
theorem dX4_act_132 : decode cX4_act 132 = .ok (.iload 4, 2) := by decide +kernel
theorem dX4_act_134 : decode cX4_act 134 = .ok (.iload_n 1, 1) := by decide +kernel
theorem dX4_act_135 : decode cX4_act 135 = .ok (.iastore, 1) := by decide +kernel
theorem dX4_act_136 : decode cX4_act 136 = .ok (.goto 145, 3) := by decide +kernel
theorem dX4_act_139 : decode cX4_act 139 = .ok (.aload_n 0, 1) := by decide +kernel
theorem dX4_act_140 : decode cX4_act 140 = .ok (.getfield 32, 3) := by decide +kernel
theorem dX4_act_143 : decode cX4_act 143 = .ok (.iload 4, 2) := by decide +kernel
theorem dX4_act_145 : decode cX4_act 145 = .ok (.iaload, 1) := by decide +kernel
theorem dX4_act_146 : decode cX4_act 146 = .ok (.bipush (-9), 2) := by decide +kernel
theorem dX4_act_148 : decode cX4_act 148 = .ok (.if_icmp .ne 8, 3) := by decide +kernel
theorem dX4_act_151 : decode cX4_act 151 = .ok (.iload 5, 2) := by decide +kernel
theorem dX4_act_153 : decode cX4_act 153 = .ok (.ifCond .eq 128, 3) := by decide +kernel
theorem dX4_act_156 : decode cX4_act 156 = .ok (.aload_n 0, 1) := by decide +kernel
theorem dX4_act_157 : decode cX4_act 157 = .ok (.getfield 38, 3) := by decide +kernel
theorem dX4_act_160 : decode cX4_act 160 = .ok (.iload_n 1, 1) := by decide +kernel
theorem dX4_act_161 : decode cX4_act 161 = .ok (.bipush 6, 2) := by decide +kernel
theorem dX4_act_163 : decode cX4_act 163 = .ok (.iastore, 1) := by decide +kernel
theorem dX4_act_164 : decode cX4_act 164 = .ok (.goto 117, 3) := by decide +kernel
theorem dX4_act_167 : decode cX4_act 167 = .ok (.aload_n 0, 1) := by decide +kernel
theorem dX4_act_168 : decode cX4_act 168 = .ok (.getfield 74, 3) := by decide +kernel
theorem dX4_act_171 : decode cX4_act 171 = .ok (.aload_n 0, 1) := by decide +kernel
theorem dX4_act_172 : decode cX4_act 172 = .ok (.getfield 170, 3) := by decide +kernel
theorem dX4_act_175 : decode cX4_act 175 = .ok (.iload_n 2, 1) := by decide +kernel
theorem dX4_act_176 : decode cX4_act 176 = .ok (.iastore, 1) := by decide +kernel
theorem dX4_act_177 : decode cX4_act 177 = .ok (.aload_n 0, 1) := by decide +kernel
theorem dX4_act_178 : decode cX4_act 178 = .ok (.getfield 77, 3) := by decide +kernel
theorem dX4_act_181 : decode cX4_act 181 = .ok (.aload_n 0, 1) := by decide +kernel
theorem dX4_act_182 : decode cX4_act 182 = .ok (.getfield 170, 3) := by decide +kernel
theorem dX4_act_185 : decode cX4_act 185 = .ok (.iload_n 3, 1) := by decide +kernel
theorem dX4_act_186 : decode cX4_act 186 = .ok (.iastore, 1) := by decide +kernel
theorem dX4_act_187 : decode cX4_act 187 = .ok (.aload_n 0, 1) := by decide +kernel
theorem dX4_act_188 : decode cX4_act 188 = .ok (.dup, 1) := by decide +kernel
theorem dX4_act_189 : decode cX4_act 189 = .ok (.getfield 170, 3) := by decide +kernel
theorem dX4_act_192 : decode cX4_act 192 = .ok (.iconst 1, 1) := by decide +kernel
theorem dX4_act_193 : decode cX4_act 193 = .ok (.iadd, 1) := by decide +kernel
theorem dX4_act_194 : decode cX4_act 194 = .ok (.putfield 170, 3) := by decide +kernel
theorem dX4_act_197 : decode cX4_act 197 = .ok (.goto 84, 3) := by decide +kernel
theorem dX4_act_200 : decode cX4_act 200 = .ok (.aload_n 0, 1) := by decide +kernel
theorem dX4_act_201 : decode cX4_act 201 = .ok (.iload_n 2, 1) := by decide +kernel
theorem dX4_act_202 : decode cX4_act 202 = .ok (.iload_n 3, 1) := by decide +kernel
theorem dX4_act_203 : decode cX4_act 203 = .ok (.iconst 1, 1) := by decide +kernel
theorem dX4_act_204 : decode cX4_act 204 = .ok (.invokevirtual 199, 3) := by decide +kernel
theorem dX4_act_207 : decode cX4_act 207 = .ok (.aload_n 0, 1) := by decide +kernel
theorem dX4_act_208 : decode cX4_act 208 = .ok (.getfield 71, 3) := by decide +kernel
theorem dX4_act_211 : decode cX4_act 211 = .ok (.iload_n 2, 1) := by decide +kernel
theorem dX4_act_212 : decode cX4_act 212 = .ok (.dup2, 1) := by decide +kernel
theorem dX4_act_213 : decode cX4_act 213 = .ok (.iaload, 1) := by decide +kernel
theorem dX4_act_214 : decode cX4_act 214 = .ok (.iconst 1, 1) := by decide +kernel
theorem dX4_act_215 : decode cX4_act 215 = .ok (.iload_n 3, 1) := by decide +kernel
theorem dX4_act_216 : decode cX4_act 216 = .ok (.ishl, 1) := by decide +kernel
theorem dX4_act_217 : decode cX4_act 217 = .ok (.ior, 1) := by decide +kernel
theorem dX4_act_218 : decode cX4_act 218 = .ok (.iastore, 1) := by decide +kernel
theorem dX4_act_219 : decode cX4_act 219 = .ok (.aload_n 0, 1) := by decide +kernel
theorem dX4_act_220 : decode cX4_act 220 = .ok (.getfield 32, 3) := by decide +kernel
theorem dX4_act_223 : decode cX4_act 223 = .ok (.iload 4, 2) := by decide +kernel
theorem dX4_act_225 : decode cX4_act 225 = .ok (.bipush (-9), 2) := by decide +kernel
theorem dX4_act_227 : decode cX4_act 227 = .ok (.iastore, 1) := by decide +kernel
theorem dX4_act_228 : decode cX4_act 228 = .ok (.aload_n 0, 1) := by decide +kernel
theorem dX4_act_229 : decode cX4_act 229 = .ok (.getfield 47, 3) := by decide +kernel
theorem dX4_act_232 : decode cX4_act 232 = .ok (.iload_n 1, 1) := by decide +kernel
theorem dX4_act_233 : decode cX4_act 233 = .ok (.iconst 1, 1) := by decide +kernel
theorem dX4_act_234 : decode cX4_act 234 = .ok (.bastore, 1) := by decide +kernel
theorem dX4_act_235 : decode cX4_act 235 = .ok (.goto 46, 3) := by decide +kernel
theorem dX4_act_238 : decode cX4_act 238 = .ok (.aload_n 0, 1) := by decide +kernel
theorem dX4_act_239 : decode cX4_act 239 = .ok (.iload_n 2, 1) := by decide +kernel
theorem dX4_act_240 : decode cX4_act 240 = .ok (.iload_n 3, 1) := by decide +kernel
theorem dX4_act_241 : decode cX4_act 241 = .ok (.iconst 0, 1) := by decide +kernel
theorem dX4_act_242 : decode cX4_act 242 = .ok (.invokevirtual 199, 3) := by decide +kernel
theorem dX4_act_245 : decode cX4_act 245 = .ok (.aload_n 0, 1) := by decide +kernel
theorem dX4_act_246 : decode cX4_act 246 = .ok (.getfield 71, 3) := by decide +kernel
theorem dX4_act_249 : decode cX4_act 249 = .ok (.iload_n 2, 1) := by decide +kernel
theorem dX4_act_250 : decode cX4_act 250 = .ok (.dup2, 1) := by decide +kernel
theorem dX4_act_251 : decode cX4_act 251 = .ok (.iaload, 1) := by decide +kernel
theorem dX4_act_252 : decode cX4_act 252 = .ok (.iconst 1, 1) := by decide +kernel
theorem dX4_act_253 : decode cX4_act 253 = .ok (.iload_n 3, 1) := by decide +kernel
theorem dX4_act_254 : decode cX4_act 254 = .ok (.ishl, 1) := by decide +kernel
theorem dX4_act_255 : decode cX4_act 255 = .ok (.ior, 1) := by decide +kernel
theorem dX4_act_256 : decode cX4_act 256 = .ok (.iastore, 1) := by decide +kernel
theorem dX4_act_257 : decode cX4_act 257 = .ok (.aload_n 0, 1) := by decide +kernel
theorem dX4_act_258 : decode cX4_act 258 = .ok (.getfield 74, 3) := by decide +kernel
theorem dX4_act_261 : decode cX4_act 261 = .ok (.aload_n 0, 1) := by decide +kernel
theorem dX4_act_262 : decode cX4_act 262 = .ok (.iload_n 1, 1) := by decide +kernel
theorem dX4_act_263 : decode cX4_act 263 = .ok (.invokevirtual 180, 3) := by decide +kernel
theorem dX4_act_266 : decode cX4_act 266 = .ok (.bipush (-9), 2) := by decide +kernel
theorem dX4_act_268 : decode cX4_act 268 = .ok (.iastore, 1) := by decide +kernel
theorem dX4_act_269 : decode cX4_act 269 = .ok (.goto 12, 3) := by decide +kernel
theorem dX4_act_272 : decode cX4_act 272 = .ok (.aload_n 0, 1) := by decide +kernel
theorem dX4_act_273 : decode cX4_act 273 = .ok (.getfield 32, 3) := by decide +kernel
theorem dX4_act_276 : decode cX4_act 276 = .ok (.iload 4, 2) := by decide +kernel
theorem dX4_act_278 : decode cX4_act 278 = .ok (.bipush (-9), 2) := by decide +kernel
theorem dX4_act_280 : decode cX4_act 280 = .ok (.iastore, 1) := by decide +kernel
theorem dX4_act_281 : decode cX4_act 281 = .ok (.aload_n 0, 1) := by decide +kernel
theorem dX4_act_282 : decode cX4_act 282 = .ok (.getfield 41, 3) := by decide +kernel
theorem dX4_act_285 : decode cX4_act 285 = .ok (.iload_n 1, 1) := by decide +kernel
theorem dX4_act_286 : decode cX4_act 286 = .ok (.dup2, 1) := by decide +kernel
theorem dX4_act_287 : decode cX4_act 287 = .ok (.iaload, 1) := by decide +kernel
theorem dX4_act_288 : decode cX4_act 288 = .ok (.iconst 1, 1) := by decide +kernel
theorem dX4_act_289 : decode cX4_act 289 = .ok (.iadd, 1) := by decide +kernel
theorem dX4_act_290 : decode cX4_act 290 = .ok (.iastore, 1) := by decide +kernel
theorem dX4_act_291 : decode cX4_act 291 = .ok (.aload_n 0, 1) := by decide +kernel
theorem dX4_act_292 : decode cX4_act 292 = .ok (.iload_n 1, 1) := by decide +kernel
theorem dX4_act_293 : decode cX4_act 293 = .ok (.invokevirtual 192, 3) := by decide +kernel
theorem dX4_act_296 : decode cX4_act 296 = .ok (.return_, 1) := by decide +kernel
theorem dX4_go_0 : decode cX4_go 0 = .ok (.aload_n 0, 1) := by decide +kernel
theorem dX4_go_1 : decode cX4_go 1 = .ok (.iload_n 1, 1) := by decide +kernel
theorem dX4_go_2 : decode cX4_go 2 = .ok (.invokevirtual 133, 3) := by decide +kernel
theorem dX4_go_5 : decode cX4_go 5 = .ok (.ifCond .ne 6, 3) := by decide +kernel
theorem dX4_go_8 : decode cX4_go 8 = .ok (.bipush (-3), 2) := by decide +kernel
theorem dX4_go_10 : decode cX4_go 10 = .ok (.ireturn, 1) := by decide +kernel
theorem dX4_go_11 : decode cX4_go 11 = .ok (.aload_n 0, 1) := by decide +kernel
theorem dX4_go_12 : decode cX4_go 12 = .ok (.iload_n 1, 1) := by decide +kernel
theorem dX4_go_13 : decode cX4_go 13 = .ok (.invokevirtual 203, 3) := by decide +kernel
theorem dX4_go_16 : decode cX4_go 16 = .ok (.istore_n 2, 1) := by decide +kernel
theorem dX4_go_17 : decode cX4_go 17 = .ok (.aload_n 0, 1) := by decide +kernel
theorem dX4_go_18 : decode cX4_go 18 = .ok (.getfield 53, 3) := by decide +kernel
theorem dX4_go_21 : decode cX4_go 21 = .ok (.iload_n 2, 1) := by decide +kernel
theorem dX4_go_22 : decode cX4_go 22 = .ok (.iaload, 1) := by decide +kernel
theorem dX4_go_23 : decode cX4_go 23 = .ok (.istore_n 3, 1) := by decide +kernel
theorem dX4_go_24 : decode cX4_go 24 = .ok (.aload_n 0, 1) := by decide +kernel
theorem dX4_go_25 : decode cX4_go 25 = .ok (.iload_n 3, 1) := by decide +kernel
theorem dX4_go_26 : decode cX4_go 26 = .ok (.invokevirtual 121, 3) := by decide +kernel
theorem dX4_go_29 : decode cX4_go 29 = .ok (.ifCond .eq 6, 3) := by decide +kernel
theorem dX4_go_32 : decode cX4_go 32 = .ok (.bipush (-5), 2) := by decide +kernel
theorem dX4_go_34 : decode cX4_go 34 = .ok (.ireturn, 1) := by decide +kernel
theorem dX4_go_35 : decode cX4_go 35 = .ok (.aload_n 0, 1) := by decide +kernel
theorem dX4_go_36 : decode cX4_go 36 = .ok (.getfield 7, 3) := by decide +kernel
theorem dX4_go_39 : decode cX4_go 39 = .ok (.aload_n 0, 1) := by decide +kernel
theorem dX4_go_40 : decode cX4_go 40 = .ok (.getfield 35, 3) := by decide +kernel
theorem dX4_go_43 : decode cX4_go 43 = .ok (.iload_n 1, 1) := by decide +kernel
theorem dX4_go_44 : decode cX4_go 44 = .ok (.iaload, 1) := by decide +kernel
theorem dX4_go_45 : decode cX4_go 45 = .ok (.baload, 1) := by decide +kernel
theorem dX4_go_46 : decode cX4_go 46 = .ok (.ifCond .eq 15, 3) := by decide +kernel
theorem dX4_go_49 : decode cX4_go 49 = .ok (.aload_n 0, 1) := by decide +kernel
theorem dX4_go_50 : decode cX4_go 50 = .ok (.iload_n 3, 1) := by decide +kernel
theorem dX4_go_51 : decode cX4_go 51 = .ok (.aload_n 0, 1) := by decide +kernel
theorem dX4_go_52 : decode cX4_go 52 = .ok (.getfield 196, 3) := by decide +kernel
theorem dX4_go_55 : decode cX4_go 55 = .ok (.invokevirtual 127, 3) := by decide +kernel
theorem dX4_go_58 : decode cX4_go 58 = .ok (.ifCond .ne 6, 3) := by decide +kernel
theorem dX4_go_61 : decode cX4_go 61 = .ok (.bipush (-6), 2) := by decide +kernel
theorem dX4_go_63 : decode cX4_go 63 = .ok (.ireturn, 1) := by decide +kernel
theorem dX4_go_64 : decode cX4_go 64 = .ok (.aload_n 0, 1) := by decide +kernel
theorem dX4_go_65 : decode cX4_go 65 = .ok (.iload_n 1, 1) := by decide +kernel
theorem dX4_go_66 : decode cX4_go 66 = .ok (.iload_n 2, 1) := by decide +kernel
theorem dX4_go_67 : decode cX4_go 67 = .ok (.aload_n 0, 1) := by decide +kernel
theorem dX4_go_68 : decode cX4_go 68 = .ok (.getfield 196, 3) := by decide +kernel
theorem dX4_go_71 : decode cX4_go 71 = .ok (.invokevirtual 206, 3) := by decide +kernel
theorem dX4_go_74 : decode cX4_go 74 = .ok (.aload_n 0, 1) := by decide +kernel
theorem dX4_go_75 : decode cX4_go 75 = .ok (.getfield 38, 3) := by decide +kernel
theorem dX4_go_78 : decode cX4_go 78 = .ok (.iload_n 1, 1) := by decide +kernel
theorem dX4_go_79 : decode cX4_go 79 = .ok (.iaload, 1) := by decide +kernel
theorem dX4_go_80 : decode cX4_go 80 = .ok (.ireturn, 1) := by decide +kernel
theorem dX4_step_0 : decode cX4_step 0 = .ok (.aload_n 0, 1) := by decide +kernel
theorem dX4_step_1 : decode cX4_step 1 = .ok (.iload_n 1, 1) := by decide +kernel
theorem dX4_step_2 : decode cX4_step 2 = .ok (.invokevirtual 143, 3) := by decide +kernel
theorem dX4_step_5 : decode cX4_step 5 = .ok (.ifCond .eq 11, 3) := by decide +kernel
theorem dX4_step_8 : decode cX4_step 8 = .ok (.aload_n 0, 1) := by decide +kernel
theorem dX4_step_9 : decode cX4_step 9 = .ok (.iload_n 1, 1) := by decide +kernel
theorem dX4_step_10 : decode cX4_step 10 = .ok (.invokevirtual 210, 3) := by decide +kernel
theorem dX4_step_13 : decode cX4_step 13 = .ok (.goto 4, 3) := by decide +kernel
theorem dX4_step_16 : decode cX4_step 16 = .ok (.iconst (-1), 1) := by decide +kernel
theorem dX4_step_17 : decode cX4_step 17 = .ok (.ireturn, 1) := by decide +kernel
theorem dX4_run_0 : decode cX4_run 0 = .ok (.aload_n 0, 1) := by decide +kernel
theorem dX4_run_1 : decode cX4_run 1 = .ok (.iload_n 1, 1) := by decide +kernel
theorem dX4_run_2 : decode cX4_run 2 = .ok (.invokevirtual 143, 3) := by decide +kernel
theorem dX4_run_5 : decode cX4_run 5 = .ok (.ifCond .ne 5, 3) := by decide +kernel
theorem dX4_run_8 : decode cX4_run 8 = .ok (.iconst (-1), 1) := by decide +kernel
theorem dX4_run_9 : decode cX4_run 9 = .ok (.ireturn, 1) := by decide +kernel
theorem dX4_run_10 : decode cX4_run 10 = .ok (.iload_n 2, 1) := by decide +kernel
theorem dX4_run_11 : decode cX4_run 11 = .ok (.i2l, 1) := by decide +kernel
theorem dX4_run_12 : decode cX4_run 12 = .ok (.lconst 1, 1) := by decide +kernel
theorem dX4_run_13 : decode cX4_run 13 = .ok (.ldc2_w 213, 3) := by decide +kernel
theorem dX4_run_16 : decode cX4_run 16 = .ok (.invokestatic 88, 3) := by decide +kernel
theorem dX4_run_19 : decode cX4_run 19 = .ok (.ifCond .ne 6, 3) := by decide +kernel
theorem dX4_run_22 : decode cX4_run 22 = .ok (.bipush (-2), 2) := by decide +kernel
theorem dX4_run_24 : decode cX4_run 24 = .ok (.ireturn, 1) := by decide +kernel
theorem dX4_run_25 : decode cX4_run 25 = .ok (.aload_n 0, 1) := by decide +kernel
theorem dX4_run_26 : decode cX4_run 26 = .ok (.iload_n 1, 1) := by decide +kernel
theorem dX4_run_27 : decode cX4_run 27 = .ok (.invokevirtual 133, 3) := by decide +kernel
theorem dX4_run_30 : decode cX4_run 30 = .ok (.ifCond .ne 6, 3) := by decide +kernel
theorem dX4_run_33 : decode cX4_run 33 = .ok (.bipush (-3), 2) := by decide +kernel
theorem dX4_run_35 : decode cX4_run 35 = .ok (.ireturn, 1) := by decide +kernel
theorem dX4_run_36 : decode cX4_run 36 = .ok (.iconst 0, 1) := by decide +kernel
theorem dX4_run_37 : decode cX4_run 37 = .ok (.istore_n 3, 1) := by decide +kernel
theorem dX4_run_38 : decode cX4_run 38 = .ok (.iload_n 3, 1) := by decide +kernel
theorem dX4_run_39 : decode cX4_run 39 = .ok (.iload_n 2, 1) := by decide +kernel
theorem dX4_run_40 : decode cX4_run 40 = .ok (.if_icmp .ge 25, 3) := by decide +kernel
theorem dX4_run_43 : decode cX4_run 43 = .ok (.aload_n 0, 1) := by decide +kernel
theorem dX4_run_44 : decode cX4_run 44 = .ok (.iload_n 1, 1) := by decide +kernel
theorem dX4_run_45 : decode cX4_run 45 = .ok (.invokevirtual 133, 3) := by decide +kernel
theorem dX4_run_48 : decode cX4_run 48 = .ok (.ifCond .eq 17, 3) := by decide +kernel
theorem dX4_run_51 : decode cX4_run 51 = .ok (.aload_n 0, 1) := by decide +kernel
theorem dX4_run_52 : decode cX4_run 52 = .ok (.iload_n 1, 1) := by decide +kernel
theorem dX4_run_53 : decode cX4_run 53 = .ok (.invokevirtual 210, 3) := by decide +kernel
theorem dX4_run_56 : decode cX4_run 56 = .ok (.ifCond .lt 9, 3) := by decide +kernel
theorem dX4_run_59 : decode cX4_run 59 = .ok (.iinc 3 1, 3) := by decide +kernel
theorem dX4_run_62 : decode cX4_run 62 = .ok (.goto (-24), 3) := by decide +kernel
theorem dX4_run_65 : decode cX4_run 65 = .ok (.iload_n 3, 1) := by decide +kernel
theorem dX4_run_66 : decode cX4_run 66 = .ok (.ireturn, 1) := by decide +kernel
theorem dX4_isHit_0 : decode cX4_isHit 0 = .ok (.iconst 0, 1) := by decide +kernel
theorem dX4_isHit_1 : decode cX4_isHit 1 = .ok (.istore_n 2, 1) := by decide +kernel
theorem dX4_isHit_2 : decode cX4_isHit 2 = .ok (.iconst 0, 1) := by decide +kernel
theorem dX4_isHit_3 : decode cX4_isHit 3 = .ok (.istore_n 3, 1) := by decide +kernel
theorem dX4_isHit_4 : decode cX4_isHit 4 = .ok (.iload_n 3, 1) := by decide +kernel
theorem dX4_isHit_5 : decode cX4_isHit 5 = .ok (.aload_n 0, 1) := by decide +kernel
theorem dX4_isHit_6 : decode cX4_isHit 6 = .ok (.getfield 19, 3) := by decide +kernel
theorem dX4_isHit_9 : decode cX4_isHit 9 = .ok (.iload_n 1, 1) := by decide +kernel
theorem dX4_isHit_10 : decode cX4_isHit 10 = .ok (.iaload, 1) := by decide +kernel
theorem dX4_isHit_11 : decode cX4_isHit 11 = .ok (.if_icmp .ge 52, 3) := by decide +kernel
theorem dX4_isHit_14 : decode cX4_isHit 14 = .ok (.aload_n 0, 1) := by decide +kernel
theorem dX4_isHit_15 : decode cX4_isHit 15 = .ok (.getfield 23, 3) := by decide +kernel
theorem dX4_isHit_18 : decode cX4_isHit 18 = .ok (.bipush 6, 2) := by decide +kernel
theorem dX4_isHit_20 : decode cX4_isHit 20 = .ok (.iload_n 1, 1) := by decide +kernel
theorem dX4_isHit_21 : decode cX4_isHit 21 = .ok (.imul, 1) := by decide +kernel
theorem dX4_isHit_22 : decode cX4_isHit 22 = .ok (.iload_n 3, 1) := by decide +kernel
theorem dX4_isHit_23 : decode cX4_isHit 23 = .ok (.iadd, 1) := by decide +kernel
theorem dX4_isHit_24 : decode cX4_isHit 24 = .ok (.iaload, 1) := by decide +kernel
theorem dX4_isHit_25 : decode cX4_isHit 25 = .ok (.istore 4, 2) := by decide +kernel
theorem dX4_isHit_27 : decode cX4_isHit 27 = .ok (.iload_n 2, 1) := by decide +kernel
theorem dX4_isHit_28 : decode cX4_isHit 28 = .ok (.ifCond .ne 23, 3) := by decide +kernel
theorem dX4_isHit_31 : decode cX4_isHit 31 = .ok (.aload_n 0, 1) := by decide +kernel
theorem dX4_isHit_32 : decode cX4_isHit 32 = .ok (.getfield 16, 3) := by decide +kernel
theorem dX4_isHit_35 : decode cX4_isHit 35 = .ok (.iload 4, 2) := by decide +kernel
theorem dX4_isHit_37 : decode cX4_isHit 37 = .ok (.baload, 1) := by decide +kernel
theorem dX4_isHit_38 : decode cX4_isHit 38 = .ok (.ifCond .eq 17, 3) := by decide +kernel
theorem dX4_isHit_41 : decode cX4_isHit 41 = .ok (.aload_n 0, 1) := by decide +kernel
theorem dX4_isHit_42 : decode cX4_isHit 42 = .ok (.getfield 13, 3) := by decide +kernel
theorem dX4_isHit_45 : decode cX4_isHit 45 = .ok (.iload 4, 2) := by decide +kernel
theorem dX4_isHit_47 : decode cX4_isHit 47 = .ok (.baload, 1) := by decide +kernel
theorem dX4_isHit_48 : decode cX4_isHit 48 = .ok (.ifCond .ne 7, 3) := by decide +kernel
theorem dX4_isHit_51 : decode cX4_isHit 51 = .ok (.iconst 1, 1) := by decide +kernel
theorem dX4_isHit_52 : decode cX4_isHit 52 = .ok (.goto 4, 3) := by decide +kernel
theorem dX4_isHit_55 : decode cX4_isHit 55 = .ok (.iconst 0, 1) := by decide +kernel
theorem dX4_isHit_56 : decode cX4_isHit 56 = .ok (.istore_n 2, 1) := by decide +kernel
theorem dX4_isHit_57 : decode cX4_isHit 57 = .ok (.iinc 3 1, 3) := by decide +kernel
theorem dX4_isHit_60 : decode cX4_isHit 60 = .ok (.goto (-56), 3) := by decide +kernel
theorem dX4_isHit_63 : decode cX4_isHit 63 = .ok (.iload_n 2, 1) := by decide +kernel
theorem dX4_isHit_64 : decode cX4_isHit 64 = .ok (.ireturn, 1) := by decide +kernel
theorem dX4_isRecovered_0 : decode cX4_isRecovered 0 = .ok (.aload_n 0, 1) := by decide +kernel
theorem dX4_isRecovered_1 : decode cX4_isRecovered 1 = .ok (.getfield 13, 3) := by decide +kernel
theorem dX4_isRecovered_4 : decode cX4_isRecovered 4 = .ok (.aload_n 0, 1) := by decide +kernel
theorem dX4_isRecovered_5 : decode cX4_isRecovered 5 = .ok (.getfield 35, 3) := by decide +kernel
theorem dX4_isRecovered_8 : decode cX4_isRecovered 8 = .ok (.iload_n 1, 1) := by decide +kernel
theorem dX4_isRecovered_9 : decode cX4_isRecovered 9 = .ok (.iaload, 1) := by decide +kernel
theorem dX4_isRecovered_10 : decode cX4_isRecovered 10 = .ok (.baload, 1) := by decide +kernel
theorem dX4_isRecovered_11 : decode cX4_isRecovered 11 = .ok (.ifCond .ne 7, 3) := by decide +kernel
theorem dX4_isRecovered_14 : decode cX4_isRecovered 14 = .ok (.iconst 1, 1) := by decide +kernel
theorem dX4_isRecovered_15 : decode cX4_isRecovered 15 = .ok (.goto 4, 3) := by decide +kernel
theorem dX4_isRecovered_18 : decode cX4_isRecovered 18 = .ok (.iconst 0, 1) := by decide +kernel
theorem dX4_isRecovered_19 : decode cX4_isRecovered 19 = .ok (.istore_n 2, 1) := by decide +kernel
theorem dX4_isRecovered_20 : decode cX4_isRecovered 20 = .ok (.bipush 8, 2) := by decide +kernel
theorem dX4_isRecovered_22 : decode cX4_isRecovered 22 = .ok (.iload_n 1, 1) := by decide +kernel
theorem dX4_isRecovered_23 : decode cX4_isRecovered 23 = .ok (.imul, 1) := by decide +kernel
theorem dX4_isRecovered_24 : decode cX4_isRecovered 24 = .ok (.istore_n 3, 1) := by decide +kernel
theorem dX4_isRecovered_25 : decode cX4_isRecovered 25 = .ok (.iload_n 3, 1) := by decide +kernel
theorem dX4_isRecovered_26 : decode cX4_isRecovered 26 = .ok (.bipush 8, 2) := by decide +kernel
theorem dX4_isRecovered_28 : decode cX4_isRecovered 28 = .ok (.iload_n 1, 1) := by decide +kernel
theorem dX4_isRecovered_29 : decode cX4_isRecovered 29 = .ok (.imul, 1) := by decide +kernel
theorem dX4_isRecovered_30 : decode cX4_isRecovered 30 = .ok (.aload_n 0, 1) := by decide +kernel
theorem dX4_isRecovered_31 : decode cX4_isRecovered 31 = .ok (.getfield 44, 3) := by decide +kernel
theorem dX4_isRecovered_34 : decode cX4_isRecovered 34 = .ok (.iload_n 1, 1) := by decide +kernel
theorem dX4_isRecovered_35 : decode cX4_isRecovered 35 = .ok (.iaload, 1) := by decide +kernel
theorem dX4_isRecovered_36 : decode cX4_isRecovered 36 = .ok (.iadd, 1) := by decide +kernel
theorem dX4_isRecovered_37 : decode cX4_isRecovered 37 = .ok (.if_icmp .ge 41, 3) := by decide +kernel
theorem dX4_isRecovered_40 : decode cX4_isRecovered 40 = .ok (.iload_n 2, 1) := by decide +kernel
theorem dX4_isRecovered_41 : decode cX4_isRecovered 41 = .ok (.ifCond .ne 25, 3) := by decide +kernel
theorem dX4_isRecovered_44 : decode cX4_isRecovered 44 = .ok (.aload_n 0, 1) := by decide +kernel
theorem dX4_isRecovered_45 : decode cX4_isRecovered 45 = .ok (.getfield 65, 3) := by decide +kernel
theorem dX4_isRecovered_48 : decode cX4_isRecovered 48 = .ok (.iload_n 3, 1) := by decide +kernel
theorem dX4_isRecovered_49 : decode cX4_isRecovered 49 = .ok (.baload, 1) := by decide +kernel
theorem dX4_isRecovered_50 : decode cX4_isRecovered 50 = .ok (.ifCond .eq 20, 3) := by decide +kernel
theorem dX4_isRecovered_53 : decode cX4_isRecovered 53 = .ok (.aload_n 0, 1) := by decide +kernel
theorem dX4_isRecovered_54 : decode cX4_isRecovered 54 = .ok (.aload_n 0, 1) := by decide +kernel
theorem dX4_isRecovered_55 : decode cX4_isRecovered 55 = .ok (.getfield 53, 3) := by decide +kernel
theorem dX4_isRecovered_58 : decode cX4_isRecovered 58 = .ok (.iload_n 3, 1) := by decide +kernel
theorem dX4_isRecovered_59 : decode cX4_isRecovered 59 = .ok (.iaload, 1) := by decide +kernel
theorem dX4_isRecovered_60 : decode cX4_isRecovered 60 = .ok (.invokevirtual 215, 3) := by decide +kernel
theorem dX4_isRecovered_63 : decode cX4_isRecovered 63 = .ok (.ifCond .eq 7, 3) := by decide +kernel
theorem dX4_isRecovered_66 : decode cX4_isRecovered 66 = .ok (.iconst 1, 1) := by decide +kernel
theorem dX4_isRecovered_67 : decode cX4_isRecovered 67 = .ok (.goto 4, 3) := by decide +kernel
theorem dX4_isRecovered_70 : decode cX4_isRecovered 70 = .ok (.iconst 0, 1) := by decide +kernel
theorem dX4_isRecovered_71 : decode cX4_isRecovered 71 = .ok (.istore_n 2, 1) := by decide +kernel
theorem dX4_isRecovered_72 : decode cX4_isRecovered 72 = .ok (.iinc 3 1, 3) := by decide +kernel
theorem dX4_isRecovered_75 : decode cX4_isRecovered 75 = .ok (.goto (-50), 3) := by decide +kernel
theorem dX4_isRecovered_78 : decode cX4_isRecovered 78 = .ok (.iload_n 2, 1) := by decide +kernel
theorem dX4_isRecovered_79 : decode cX4_isRecovered 79 = .ok (.ireturn, 1) := by decide +kernel
theorem dX4_vote_0 : decode cX4_vote 0 = .ok (.aload_n 0, 1) := by decide +kernel
theorem dX4_vote_1 : decode cX4_vote 1 = .ok (.iload_n 2, 1) := by decide +kernel
theorem dX4_vote_2 : decode cX4_vote 2 = .ok (.invokevirtual 124, 3) := by decide +kernel
theorem dX4_vote_5 : decode cX4_vote 5 = .ok (.aload_n 0, 1) := by decide +kernel
theorem dX4_vote_6 : decode cX4_vote 6 = .ok (.getfield 80, 3) := by decide +kernel
theorem dX4_vote_9 : decode cX4_vote 9 = .ok (.iload_n 2, 1) := by decide +kernel
theorem dX4_vote_10 : decode cX4_vote 10 = .ok (.iaload, 1) := by decide +kernel
theorem dX4_vote_11 : decode cX4_vote 11 = .ok (.if_icmp .ne 7, 3) := by decide +kernel
theorem dX4_vote_14 : decode cX4_vote 14 = .ok (.iconst 1, 1) := by decide +kernel
theorem dX4_vote_15 : decode cX4_vote 15 = .ok (.goto 4, 3) := by decide +kernel
theorem dX4_vote_18 : decode cX4_vote 18 = .ok (.iconst 0, 1) := by decide +kernel
theorem dX4_vote_19 : decode cX4_vote 19 = .ok (.istore_n 3, 1) := by decide +kernel
theorem dX4_vote_20 : decode cX4_vote 20 = .ok (.iconst 0, 1) := by decide +kernel
theorem dX4_vote_21 : decode cX4_vote 21 = .ok (.istore 4, 2) := by decide +kernel
theorem dX4_vote_23 : decode cX4_vote 23 = .ok (.bipush 8, 2) := by decide +kernel
theorem dX4_vote_25 : decode cX4_vote 25 = .ok (.iload_n 1, 1) := by decide +kernel
theorem dX4_vote_26 : decode cX4_vote 26 = .ok (.imul, 1) := by decide +kernel
theorem dX4_vote_27 : decode cX4_vote 27 = .ok (.istore 5, 2) := by decide +kernel
theorem dX4_vote_29 : decode cX4_vote 29 = .ok (.iload 5, 2) := by decide +kernel
theorem dX4_vote_31 : decode cX4_vote 31 = .ok (.bipush 8, 2) := by decide +kernel
theorem dX4_vote_33 : decode cX4_vote 33 = .ok (.iload_n 1, 1) := by decide +kernel
theorem dX4_vote_34 : decode cX4_vote 34 = .ok (.imul, 1) := by decide +kernel
theorem dX4_vote_35 : decode cX4_vote 35 = .ok (.aload_n 0, 1) := by decide +kernel
theorem dX4_vote_36 : decode cX4_vote 36 = .ok (.getfield 44, 3) := by decide +kernel
theorem dX4_vote_39 : decode cX4_vote 39 = .ok (.iload_n 1, 1) := by decide +kernel
theorem dX4_vote_40 : decode cX4_vote 40 = .ok (.iaload, 1) := by decide +kernel
theorem dX4_vote_41 : decode cX4_vote 41 = .ok (.iadd, 1) := by decide +kernel
theorem dX4_vote_42 : decode cX4_vote 42 = .ok (.if_icmp .ge 174, 3) := by decide +kernel
theorem dX4_vote_45 : decode cX4_vote 45 = .ok (.aload_n 0, 1) := by decide +kernel
theorem dX4_vote_46 : decode cX4_vote 46 = .ok (.getfield 53, 3) := by decide +kernel
theorem dX4_vote_49 : decode cX4_vote 49 = .ok (.iload 5, 2) := by decide +kernel
theorem dX4_vote_51 : decode cX4_vote 51 = .ok (.iaload, 1) := by decide +kernel
theorem dX4_vote_52 : decode cX4_vote 52 = .ok (.iload_n 2, 1) := by decide +kernel
theorem dX4_vote_53 : decode cX4_vote 53 = .ok (.if_icmp .ne 157, 3) := by decide +kernel
theorem dX4_vote_56 : decode cX4_vote 56 = .ok (.aload_n 0, 1) := by decide +kernel
theorem dX4_vote_57 : decode cX4_vote 57 = .ok (.getfield 65, 3) := by decide +kernel
theorem dX4_vote_60 : decode cX4_vote 60 = .ok (.iload 5, 2) := by decide +kernel
theorem dX4_vote_62 : decode cX4_vote 62 = .ok (.baload, 1) := by decide +kernel
theorem dX4_vote_63 : decode cX4_vote 63 = .ok (.ifCond .eq 147, 3) := by decide +kernel
theorem dX4_vote_66 : decode cX4_vote 66 = .ok (.iload_n 3, 1) := by decide +kernel
theorem dX4_vote_67 : decode cX4_vote 67 = .ok (.ifCond .eq 28, 3) := by decide +kernel
theorem dX4_vote_70 : decode cX4_vote 70 = .ok (.aload_n 0, 1) := by decide +kernel
theorem dX4_vote_71 : decode cX4_vote 71 = .ok (.getfield 32, 3) := by decide +kernel
theorem dX4_vote_74 : decode cX4_vote 74 = .ok (.bipush 8, 2) := by decide +kernel
theorem dX4_vote_76 : decode cX4_vote 76 = .ok (.iload_n 2, 1) := by decide +kernel
theorem dX4_vote_77 : decode cX4_vote 77 = .ok (.imul, 1) := by decide +kernel
theorem dX4_vote_78 : decode cX4_vote 78 = .ok (.aload_n 0, 1) := by decide +kernel
theorem dX4_vote_79 : decode cX4_vote 79 = .ok (.getfield 56, 3) := by decide +kernel
theorem dX4_vote_82 : decode cX4_vote 82 = .ok (.iload 5, 2) := by decide +kernel
theorem dX4_vote_84 : decode cX4_vote 84 = .ok (.iaload, 1) := by decide +kernel
theorem dX4_vote_85 : decode cX4_vote 85 = .ok (.iadd, 1) := by decide +kernel
theorem dX4_vote_86 : decode cX4_vote 86 = .ok (.iaload, 1) := by decide +kernel
theorem dX4_vote_87 : decode cX4_vote 87 = .ok (.iload_n 1, 1) := by decide +kernel
theorem dX4_vote_88 : decode cX4_vote 88 = .ok (.if_icmp .ne 7, 3) := by decide +kernel
theorem dX4_vote_91 : decode cX4_vote 91 = .ok (.iconst 1, 1) := by decide +kernel
theorem dX4_vote_92 : decode cX4_vote 92 = .ok (.goto 4, 3) := by decide +kernel
theorem dX4_vote_95 : decode cX4_vote 95 = .ok (.iconst 0, 1) := by decide +kernel
theorem dX4_vote_96 : decode cX4_vote 96 = .ok (.istore_n 3, 1) := by decide +kernel
theorem dX4_vote_97 : decode cX4_vote 97 = .ok (.iconst 0, 1) := by decide +kernel
theorem dX4_vote_98 : decode cX4_vote 98 = .ok (.istore 6, 2) := by decide +kernel
theorem dX4_vote_100 : decode cX4_vote 100 = .ok (.iload 6, 2) := by decide +kernel
theorem dX4_vote_102 : decode cX4_vote 102 = .ok (.aload_n 0, 1) := by decide +kernel
theorem dX4_vote_103 : decode cX4_vote 103 = .ok (.getfield 19, 3) := by decide +kernel
theorem dX4_vote_106 : decode cX4_vote 106 = .ok (.iload_n 2, 1) := by decide +kernel
theorem dX4_vote_107 : decode cX4_vote 107 = .ok (.iaload, 1) := by decide +kernel
theorem dX4_vote_108 : decode cX4_vote 108 = .ok (.if_icmp .ge 43, 3) := by decide +kernel
theorem dX4_vote_111 : decode cX4_vote 111 = .ok (.aload_n 0, 1) := by decide +kernel
theorem dX4_vote_112 : decode cX4_vote 112 = .ok (.iload_n 2, 1) := by decide +kernel
theorem dX4_vote_113 : decode cX4_vote 113 = .ok (.iload 6, 2) := by decide +kernel
theorem dX4_vote_115 : decode cX4_vote 115 = .ok (.invokevirtual 96, 3) := by decide +kernel
theorem dX4_vote_118 : decode cX4_vote 118 = .ok (.ifCond .eq 23, 3) := by decide +kernel
theorem dX4_vote_121 : decode cX4_vote 121 = .ok (.aload_n 0, 1) := by decide +kernel
theorem dX4_vote_122 : decode cX4_vote 122 = .ok (.getfield 71, 3) := by decide +kernel
theorem dX4_vote_125 : decode cX4_vote 125 = .ok (.iload 5, 2) := by decide +kernel
theorem dX4_vote_127 : decode cX4_vote 127 = .ok (.iaload, 1) := by decide +kernel
theorem dX4_vote_128 : decode cX4_vote 128 = .ok (.iload 6, 2) := by decide +kernel
theorem dX4_vote_130 : decode cX4_vote 130 = .ok (.ishr, 1) := by decide +kernel
theorem dX4_vote_131 : decode cX4_vote 131 = .ok (.iconst 1, 1) := by decide +kernel
theorem dX4_vote_132 : decode cX4_vote 132 = .ok (.iand, 1) := by decide +kernel
theorem dX4_vote_133 : decode cX4_vote 133 = .ok (.iconst 1, 1) := by decide +kernel
theorem dX4_vote_134 : decode cX4_vote 134 = .ok (.if_icmp .ne 7, 3) := by decide +kernel
theorem dX4_vote_137 : decode cX4_vote 137 = .ok (.iconst 3, 1) := by decide +kernel
theorem dX4_vote_138 : decode cX4_vote 138 = .ok (.goto 5, 3) := by decide +kernel
theorem dX4_vote_141 : decode cX4_vote 141 = .ok (.iload 4, 2) := by decide +kernel
theorem dX4_vote_143 : decode cX4_vote 143 = .ok (.istore 4, 2) := by decide +kernel
theorem dX4_vote_145 : decode cX4_vote 145 = .ok (.iinc 6 1, 3) := by decide +kernel
theorem dX4_vote_148 : decode cX4_vote 148 = .ok (.goto (-48), 3) := by decide +kernel
theorem dX4_vote_151 : decode cX4_vote 151 = .ok (.iconst 0, 1) := by decide +kernel
theorem dX4_vote_152 : decode cX4_vote 152 = .ok (.istore 6, 2) := by decide +kernel
theorem dX4_vote_154 : decode cX4_vote 154 = .ok (.iload 6, 2) := by decide +kernel
theorem dX4_vote_156 : decode cX4_vote 156 = .ok (.aload_n 0, 1) := by decide +kernel
theorem dX4_vote_157 : decode cX4_vote 157 = .ok (.getfield 170, 3) := by decide +kernel
theorem dX4_vote_160 : decode cX4_vote 160 = .ok (.if_icmp .ge 50, 3) := by decide +kernel
theorem dX4_vote_163 : decode cX4_vote 163 = .ok (.iload 4, 2) := by decide +kernel
theorem dX4_vote_165 : decode cX4_vote 165 = .ok (.iconst 3, 1) := by decide +kernel
theorem dX4_vote_166 : decode cX4_vote 166 = .ok (.if_icmp .ge 44, 3) := by decide +kernel
theorem dX4_vote_169 : decode cX4_vote 169 = .ok (.aload_n 0, 1) := by decide +kernel
theorem dX4_vote_170 : decode cX4_vote 170 = .ok (.getfield 74, 3) := by decide +kernel
theorem dX4_vote_173 : decode cX4_vote 173 = .ok (.iload 6, 2) := by decide +kernel
theorem dX4_vote_175 : decode cX4_vote 175 = .ok (.iaload, 1) := by decide +kernel
theorem dX4_vote_176 : decode cX4_vote 176 = .ok (.iload 5, 2) := by decide +kernel
theorem dX4_vote_178 : decode cX4_vote 178 = .ok (.if_icmp .ne 22, 3) := by decide +kernel
theorem dX4_vote_181 : decode cX4_vote 181 = .ok (.aload_n 0, 1) := by decide +kernel
theorem dX4_vote_182 : decode cX4_vote 182 = .ok (.iload_n 2, 1) := by decide +kernel
theorem dX4_vote_183 : decode cX4_vote 183 = .ok (.aload_n 0, 1) := by decide +kernel
theorem dX4_vote_184 : decode cX4_vote 184 = .ok (.getfield 77, 3) := by decide +kernel
theorem dX4_vote_187 : decode cX4_vote 187 = .ok (.iload 6, 2) := by decide +kernel
theorem dX4_vote_189 : decode cX4_vote 189 = .ok (.iaload, 1) := by decide +kernel
theorem dX4_vote_190 : decode cX4_vote 190 = .ok (.invokevirtual 96, 3) := by decide +kernel
theorem dX4_vote_193 : decode cX4_vote 193 = .ok (.ifCond .eq 7, 3) := by decide +kernel
theorem dX4_vote_196 : decode cX4_vote 196 = .ok (.iconst 2, 1) := by decide +kernel
theorem dX4_vote_197 : decode cX4_vote 197 = .ok (.goto 5, 3) := by decide +kernel
theorem dX4_vote_200 : decode cX4_vote 200 = .ok (.iload 4, 2) := by decide +kernel
theorem dX4_vote_202 : decode cX4_vote 202 = .ok (.istore 4, 2) := by decide +kernel
theorem dX4_vote_204 : decode cX4_vote 204 = .ok (.iinc 6 1, 3) := by decide +kernel
theorem dX4_vote_207 : decode cX4_vote 207 = .ok (.goto (-53), 3) := by decide +kernel
theorem dX4_vote_210 : decode cX4_vote 210 = .ok (.iinc 5 1, 3) := by decide +kernel
theorem dX4_vote_213 : decode cX4_vote 213 = .ok (.goto (-184), 3) := by decide +kernel
theorem dX4_vote_216 : decode cX4_vote 216 = .ok (.iload 4, 2) := by decide +kernel
theorem dX4_vote_218 : decode cX4_vote 218 = .ok (.ifCond .le 8, 3) := by decide +kernel
theorem dX4_vote_221 : decode cX4_vote 221 = .ok (.iload 4, 2) := by decide +kernel
theorem dX4_vote_223 : decode cX4_vote 223 = .ok (.goto 12, 3) := by decide +kernel
theorem dX4_vote_226 : decode cX4_vote 226 = .ok (.iload_n 3, 1) := by decide +kernel
theorem dX4_vote_227 : decode cX4_vote 227 = .ok (.ifCond .eq 7, 3) := by decide +kernel
theorem dX4_vote_230 : decode cX4_vote 230 = .ok (.iconst 1, 1) := by decide +kernel
theorem dX4_vote_231 : decode cX4_vote 231 = .ok (.goto 4, 3) := by decide +kernel
theorem dX4_vote_234 : decode cX4_vote 234 = .ok (.iconst 0, 1) := by decide +kernel
theorem dX4_vote_235 : decode cX4_vote 235 = .ok (.ireturn, 1) := by decide +kernel
theorem dX4_recover_0 : decode cX4_recover 0 = .ok (.iconst 0, 1) := by decide +kernel
theorem dX4_recover_1 : decode cX4_recover 1 = .ok (.istore_n 2, 1) := by decide +kernel
theorem dX4_recover_2 : decode cX4_recover 2 = .ok (.iconst 0, 1) := by decide +kernel
theorem dX4_recover_3 : decode cX4_recover 3 = .ok (.istore_n 3, 1) := by decide +kernel
theorem dX4_recover_4 : decode cX4_recover 4 = .ok (.iconst 0, 1) := by decide +kernel
theorem dX4_recover_5 : decode cX4_recover 5 = .ok (.istore 4, 2) := by decide +kernel
theorem dX4_recover_7 : decode cX4_recover 7 = .ok (.iconst 0, 1) := by decide +kernel
theorem dX4_recover_8 : decode cX4_recover 8 = .ok (.istore 5, 2) := by decide +kernel
theorem dX4_recover_10 : decode cX4_recover 10 = .ok (.iload 5, 2) := by decide +kernel
theorem dX4_recover_12 : decode cX4_recover 12 = .ok (.aload_n 0, 1) := by decide +kernel
theorem dX4_recover_13 : decode cX4_recover 13 = .ok (.getfield 92, 3) := by decide +kernel
theorem dX4_recover_16 : decode cX4_recover 16 = .ok (.if_icmp .ge 86, 3) := by decide +kernel
theorem dX4_recover_19 : decode cX4_recover 19 = .ok (.aload_n 0, 1) := by decide +kernel
theorem dX4_recover_20 : decode cX4_recover 20 = .ok (.iload_n 1, 1) := by decide +kernel
theorem dX4_recover_21 : decode cX4_recover 21 = .ok (.iload 5, 2) := by decide +kernel
theorem dX4_recover_23 : decode cX4_recover 23 = .ok (.invokevirtual 136, 3) := by decide +kernel
theorem dX4_recover_26 : decode cX4_recover 26 = .ok (.ifCond .eq 70, 3) := by decide +kernel
theorem dX4_recover_29 : decode cX4_recover 29 = .ok (.aload_n 0, 1) := by decide +kernel
theorem dX4_recover_30 : decode cX4_recover 30 = .ok (.iload 5, 2) := by decide +kernel
theorem dX4_recover_32 : decode cX4_recover 32 = .ok (.invokevirtual 121, 3) := by decide +kernel
theorem dX4_recover_35 : decode cX4_recover 35 = .ok (.ifCond .ne 61, 3) := by decide +kernel
theorem dX4_recover_38 : decode cX4_recover 38 = .ok (.aload_n 0, 1) := by decide +kernel
theorem dX4_recover_39 : decode cX4_recover 39 = .ok (.iload_n 1, 1) := by decide +kernel
theorem dX4_recover_40 : decode cX4_recover 40 = .ok (.iload 5, 2) := by decide +kernel
theorem dX4_recover_42 : decode cX4_recover 42 = .ok (.invokevirtual 218, 3) := by decide +kernel
theorem dX4_recover_45 : decode cX4_recover 45 = .ok (.istore 6, 2) := by decide +kernel
theorem dX4_recover_47 : decode cX4_recover 47 = .ok (.iload_n 2, 1) := by decide +kernel
theorem dX4_recover_48 : decode cX4_recover 48 = .ok (.ifCond .ne 9, 3) := by decide +kernel
theorem dX4_recover_51 : decode cX4_recover 51 = .ok (.iload 6, 2) := by decide +kernel
theorem dX4_recover_53 : decode cX4_recover 53 = .ok (.iconst 3, 1) := by decide +kernel
theorem dX4_recover_54 : decode cX4_recover 54 = .ok (.if_icmp .ne 7, 3) := by decide +kernel
theorem dX4_recover_57 : decode cX4_recover 57 = .ok (.iconst 1, 1) := by decide +kernel
theorem dX4_recover_58 : decode cX4_recover 58 = .ok (.goto 4, 3) := by decide +kernel
theorem dX4_recover_61 : decode cX4_recover 61 = .ok (.iconst 0, 1) := by decide +kernel
theorem dX4_recover_62 : decode cX4_recover 62 = .ok (.istore_n 2, 1) := by decide +kernel
theorem dX4_recover_63 : decode cX4_recover 63 = .ok (.iload_n 3, 1) := by decide +kernel
theorem dX4_recover_64 : decode cX4_recover 64 = .ok (.ifCond .ne 9, 3) := by decide +kernel
theorem dX4_recover_67 : decode cX4_recover 67 = .ok (.iload 6, 2) := by decide +kernel
theorem dX4_recover_69 : decode cX4_recover 69 = .ok (.iconst 2, 1) := by decide +kernel
theorem dX4_recover_70 : decode cX4_recover 70 = .ok (.if_icmp .ne 7, 3) := by decide +kernel
theorem dX4_recover_73 : decode cX4_recover 73 = .ok (.iconst 1, 1) := by decide +kernel
theorem dX4_recover_74 : decode cX4_recover 74 = .ok (.goto 4, 3) := by decide +kernel
theorem dX4_recover_77 : decode cX4_recover 77 = .ok (.iconst 0, 1) := by decide +kernel
theorem dX4_recover_78 : decode cX4_recover 78 = .ok (.istore_n 3, 1) := by decide +kernel
theorem dX4_recover_79 : decode cX4_recover 79 = .ok (.iload 4, 2) := by decide +kernel
theorem dX4_recover_81 : decode cX4_recover 81 = .ok (.ifCond .ne 8, 3) := by decide +kernel
theorem dX4_recover_84 : decode cX4_recover 84 = .ok (.iload 6, 2) := by decide +kernel
theorem dX4_recover_86 : decode cX4_recover 86 = .ok (.ifCond .ne 7, 3) := by decide +kernel
theorem dX4_recover_89 : decode cX4_recover 89 = .ok (.iconst 1, 1) := by decide +kernel
theorem dX4_recover_90 : decode cX4_recover 90 = .ok (.goto 4, 3) := by decide +kernel
theorem dX4_recover_93 : decode cX4_recover 93 = .ok (.iconst 0, 1) := by decide +kernel
theorem dX4_recover_94 : decode cX4_recover 94 = .ok (.istore 4, 2) := by decide +kernel
theorem dX4_recover_96 : decode cX4_recover 96 = .ok (.iinc 5 1, 3) := by decide +kernel
theorem dX4_recover_99 : decode cX4_recover 99 = .ok (.goto (-89), 3) := by decide +kernel
theorem dX4_recover_102 : decode cX4_recover 102 = .ok (.iload_n 2, 1) := by decide +kernel
theorem dX4_recover_103 : decode cX4_recover 103 = .ok (.ifCond .ne 12, 3) := by decide +kernel
theorem dX4_recover_106 : decode cX4_recover 106 = .ok (.iload_n 3, 1) := by decide +kernel
theorem dX4_recover_107 : decode cX4_recover 107 = .ok (.ifCond .eq 12, 3) := by decide +kernel
theorem dX4_recover_110 : decode cX4_recover 110 = .ok (.iload 4, 2) := by decide +kernel
theorem dX4_recover_112 : decode cX4_recover 112 = .ok (.ifCond .ne 7, 3) := by decide +kernel
theorem dX4_recover_115 : decode cX4_recover 115 = .ok (.iconst 1, 1) := by decide +kernel
theorem dX4_recover_116 : decode cX4_recover 116 = .ok (.goto 4, 3) := by decide +kernel
theorem dX4_recover_119 : decode cX4_recover 119 = .ok (.iconst 0, 1) := by decide +kernel
theorem dX4_recover_120 : decode cX4_recover 120 = .ok (.istore 5, 2) := by decide +kernel
theorem dX4_recover_122 : decode cX4_recover 122 = .ok (.bipush 8, 2) := by decide +kernel
theorem dX4_recover_124 : decode cX4_recover 124 = .ok (.iload_n 1, 1) := by decide +kernel
theorem dX4_recover_125 : decode cX4_recover 125 = .ok (.imul, 1) := by decide +kernel
theorem dX4_recover_126 : decode cX4_recover 126 = .ok (.istore 6, 2) := by decide +kernel
theorem dX4_recover_128 : decode cX4_recover 128 = .ok (.iload 6, 2) := by decide +kernel
theorem dX4_recover_130 : decode cX4_recover 130 = .ok (.bipush 8, 2) := by decide +kernel
theorem dX4_recover_132 : decode cX4_recover 132 = .ok (.iload_n 1, 1) := by decide +kernel
theorem dX4_recover_133 : decode cX4_recover 133 = .ok (.imul, 1) := by decide +kernel
theorem dX4_recover_134 : decode cX4_recover 134 = .ok (.aload_n 0, 1) := by decide +kernel
theorem dX4_recover_135 : decode cX4_recover 135 = .ok (.getfield 44, 3) := by decide +kernel
theorem dX4_recover_138 : decode cX4_recover 138 = .ok (.iload_n 1, 1) := by decide +kernel
theorem dX4_recover_139 : decode cX4_recover 139 = .ok (.iaload, 1) := by decide +kernel
theorem dX4_recover_140 : decode cX4_recover 140 = .ok (.iadd, 1) := by decide +kernel
theorem dX4_recover_141 : decode cX4_recover 141 = .ok (.if_icmp .ge 116, 3) := by decide +kernel
theorem dX4_recover_144 : decode cX4_recover 144 = .ok (.aload_n 0, 1) := by decide +kernel
theorem dX4_recover_145 : decode cX4_recover 145 = .ok (.getfield 53, 3) := by decide +kernel
theorem dX4_recover_148 : decode cX4_recover 148 = .ok (.iload 6, 2) := by decide +kernel
theorem dX4_recover_150 : decode cX4_recover 150 = .ok (.iaload, 1) := by decide +kernel
theorem dX4_recover_151 : decode cX4_recover 151 = .ok (.istore 7, 2) := by decide +kernel
theorem dX4_recover_153 : decode cX4_recover 153 = .ok (.iconst 0, 1) := by decide +kernel
theorem dX4_recover_154 : decode cX4_recover 154 = .ok (.istore 8, 2) := by decide +kernel
theorem dX4_recover_156 : decode cX4_recover 156 = .ok (.iload 8, 2) := by decide +kernel
theorem dX4_recover_158 : decode cX4_recover 158 = .ok (.aload_n 0, 1) := by decide +kernel
theorem dX4_recover_159 : decode cX4_recover 159 = .ok (.getfield 19, 3) := by decide +kernel
theorem dX4_recover_162 : decode cX4_recover 162 = .ok (.iload 7, 2) := by decide +kernel
theorem dX4_recover_164 : decode cX4_recover 164 = .ok (.iaload, 1) := by decide +kernel
theorem dX4_recover_165 : decode cX4_recover 165 = .ok (.if_icmp .ge 44, 3) := by decide +kernel
theorem dX4_recover_168 : decode cX4_recover 168 = .ok (.iload 5, 2) := by decide +kernel
theorem dX4_recover_170 : decode cX4_recover 170 = .ok (.ifCond .eq 39, 3) := by decide +kernel
theorem dX4_recover_173 : decode cX4_recover 173 = .ok (.aload_n 0, 1) := by decide +kernel
theorem dX4_recover_174 : decode cX4_recover 174 = .ok (.getfield 65, 3) := by decide +kernel
theorem dX4_recover_177 : decode cX4_recover 177 = .ok (.iload 6, 2) := by decide +kernel
theorem dX4_recover_179 : decode cX4_recover 179 = .ok (.baload, 1) := by decide +kernel
theorem dX4_recover_180 : decode cX4_recover 180 = .ok (.ifCond .eq 29, 3) := by decide +kernel
theorem dX4_recover_183 : decode cX4_recover 183 = .ok (.aload_n 0, 1) := by decide +kernel
theorem dX4_recover_184 : decode cX4_recover 184 = .ok (.iload 7, 2) := by decide +kernel
theorem dX4_recover_186 : decode cX4_recover 186 = .ok (.iload 8, 2) := by decide +kernel
theorem dX4_recover_188 : decode cX4_recover 188 = .ok (.invokevirtual 96, 3) := by decide +kernel
theorem dX4_recover_191 : decode cX4_recover 191 = .ok (.ifCond .eq 12, 3) := by decide +kernel
theorem dX4_recover_194 : decode cX4_recover 194 = .ok (.aload_n 0, 1) := by decide +kernel
theorem dX4_recover_195 : decode cX4_recover 195 = .ok (.iload 6, 2) := by decide +kernel
theorem dX4_recover_197 : decode cX4_recover 197 = .ok (.iload 8, 2) := by decide +kernel
theorem dX4_recover_199 : decode cX4_recover 199 = .ok (.iconst 0, 1) := by decide +kernel
theorem dX4_recover_200 : decode cX4_recover 200 = .ok (.invokevirtual 199, 3) := by decide +kernel
theorem dX4_recover_203 : decode cX4_recover 203 = .ok (.iinc 8 1, 3) := by decide +kernel
theorem dX4_recover_206 : decode cX4_recover 206 = .ok (.goto (-50), 3) := by decide +kernel
theorem dX4_recover_209 : decode cX4_recover 209 = .ok (.aload_n 0, 1) := by decide +kernel
theorem dX4_recover_210 : decode cX4_recover 210 = .ok (.getfield 32, 3) := by decide +kernel
theorem dX4_recover_213 : decode cX4_recover 213 = .ok (.bipush 8, 2) := by decide +kernel
theorem dX4_recover_215 : decode cX4_recover 215 = .ok (.iload 7, 2) := by decide +kernel
theorem dX4_recover_217 : decode cX4_recover 217 = .ok (.imul, 1) := by decide +kernel
theorem dX4_recover_218 : decode cX4_recover 218 = .ok (.aload_n 0, 1) := by decide +kernel
theorem dX4_recover_219 : decode cX4_recover 219 = .ok (.getfield 56, 3) := by decide +kernel
theorem dX4_recover_222 : decode cX4_recover 222 = .ok (.iload 6, 2) := by decide +kernel
theorem dX4_recover_224 : decode cX4_recover 224 = .ok (.iaload, 1) := by decide +kernel
theorem dX4_recover_225 : decode cX4_recover 225 = .ok (.iadd, 1) := by decide +kernel
theorem dX4_recover_226 : decode cX4_recover 226 = .ok (.iaload, 1) := by decide +kernel
theorem dX4_recover_227 : decode cX4_recover 227 = .ok (.iload_n 1, 1) := by decide +kernel
theorem dX4_recover_228 : decode cX4_recover 228 = .ok (.if_icmp .ne 23, 3) := by decide +kernel
theorem dX4_recover_231 : decode cX4_recover 231 = .ok (.aload_n 0, 1) := by decide +kernel
theorem dX4_recover_232 : decode cX4_recover 232 = .ok (.getfield 32, 3) := by decide +kernel
theorem dX4_recover_235 : decode cX4_recover 235 = .ok (.bipush 8, 2) := by decide +kernel
theorem dX4_recover_237 : decode cX4_recover 237 = .ok (.iload 7, 2) := by decide +kernel
theorem dX4_recover_239 : decode cX4_recover 239 = .ok (.imul, 1) := by decide +kernel
theorem dX4_recover_240 : decode cX4_recover 240 = .ok (.aload_n 0, 1) := by decide +kernel
theorem dX4_recover_241 : decode cX4_recover 241 = .ok (.getfield 56, 3) := by decide +kernel
theorem dX4_recover_244 : decode cX4_recover 244 = .ok (.iload 6, 2) := by decide +kernel
theorem dX4_recover_246 : decode cX4_recover 246 = .ok (.iaload, 1) := by decide +kernel
theorem dX4_recover_247 : decode cX4_recover 247 = .ok (.iadd, 1) := by decide +kernel
theorem dX4_recover_248 : decode cX4_recover 248 = .ok (.bipush (-9), 2) := by decide +kernel
theorem dX4_recover_250 : decode cX4_recover 250 = .ok (.iastore, 1) := by decide +kernel
theorem dX4_recover_251 : decode cX4_recover 251 = .ok (.iinc 6 1, 3) := by decide +kernel
theorem dX4_recover_254 : decode cX4_recover 254 = .ok (.goto (-126), 3) := by decide +kernel
theorem dX4_recover_257 : decode cX4_recover 257 = .ok (.iconst 0, 1) := by decide +kernel
theorem dX4_recover_258 : decode cX4_recover 258 = .ok (.istore 6, 2) := by decide +kernel
theorem dX4_recover_260 : decode cX4_recover 260 = .ok (.iload 6, 2) := by decide +kernel
theorem dX4_recover_262 : decode cX4_recover 262 = .ok (.aload_n 0, 1) := by decide +kernel
theorem dX4_recover_263 : decode cX4_recover 263 = .ok (.getfield 170, 3) := by decide +kernel
theorem dX4_recover_266 : decode cX4_recover 266 = .ok (.if_icmp .ge 54, 3) := by decide +kernel
theorem dX4_recover_269 : decode cX4_recover 269 = .ok (.aload_n 0, 1) := by decide +kernel
theorem dX4_recover_270 : decode cX4_recover 270 = .ok (.getfield 74, 3) := by decide +kernel
theorem dX4_recover_273 : decode cX4_recover 273 = .ok (.iload 6, 2) := by decide +kernel
theorem dX4_recover_275 : decode cX4_recover 275 = .ok (.aload_n 0, 1) := by decide +kernel
theorem dX4_recover_276 : decode cX4_recover 276 = .ok (.getfield 74, 3) := by decide +kernel
theorem dX4_recover_279 : decode cX4_recover 279 = .ok (.iload 6, 2) := by decide +kernel
theorem dX4_recover_281 : decode cX4_recover 281 = .ok (.iaload, 1) := by decide +kernel
theorem dX4_recover_282 : decode cX4_recover 282 = .ok (.bipush (-9), 2) := by decide +kernel
theorem dX4_recover_284 : decode cX4_recover 284 = .ok (.if_icmp .eq 22, 3) := by decide +kernel
theorem dX4_recover_287 : decode cX4_recover 287 = .ok (.aload_n 0, 1) := by decide +kernel
theorem dX4_recover_288 : decode cX4_recover 288 = .ok (.getfield 74, 3) := by decide +kernel
theorem dX4_recover_291 : decode cX4_recover 291 = .ok (.iload 6, 2) := by decide +kernel
theorem dX4_recover_293 : decode cX4_recover 293 = .ok (.iaload, 1) := by decide +kernel
theorem dX4_recover_294 : decode cX4_recover 294 = .ok (.bipush 8, 2) := by decide +kernel
theorem dX4_recover_296 : decode cX4_recover 296 = .ok (.idiv, 1) := by decide +kernel
theorem dX4_recover_297 : decode cX4_recover 297 = .ok (.iload_n 1, 1) := by decide +kernel
theorem dX4_recover_298 : decode cX4_recover 298 = .ok (.if_icmp .ne 8, 3) := by decide +kernel
theorem dX4_recover_301 : decode cX4_recover 301 = .ok (.bipush (-9), 2) := by decide +kernel
theorem dX4_recover_303 : decode cX4_recover 303 = .ok (.goto 10, 3) := by decide +kernel
theorem dX4_recover_306 : decode cX4_recover 306 = .ok (.aload_n 0, 1) := by decide +kernel
theorem dX4_recover_307 : decode cX4_recover 307 = .ok (.getfield 74, 3) := by decide +kernel
theorem dX4_recover_310 : decode cX4_recover 310 = .ok (.iload 6, 2) := by decide +kernel
theorem dX4_recover_312 : decode cX4_recover 312 = .ok (.iaload, 1) := by decide +kernel
theorem dX4_recover_313 : decode cX4_recover 313 = .ok (.iastore, 1) := by decide +kernel
theorem dX4_recover_314 : decode cX4_recover 314 = .ok (.iinc 6 1, 3) := by decide +kernel
theorem dX4_recover_317 : decode cX4_recover 317 = .ok (.goto (-57), 3) := by decide +kernel
theorem dX4_recover_320 : decode cX4_recover 320 = .ok (.aload_n 0, 1) := by decide +kernel
theorem dX4_recover_321 : decode cX4_recover 321 = .ok (.getfield 47, 3) := by decide +kernel
theorem dX4_recover_324 : decode cX4_recover 324 = .ok (.iload_n 1, 1) := by decide +kernel
theorem dX4_recover_325 : decode cX4_recover 325 = .ok (.aload_n 0, 1) := by decide +kernel
theorem dX4_recover_326 : decode cX4_recover 326 = .ok (.getfield 47, 3) := by decide +kernel
theorem dX4_recover_329 : decode cX4_recover 329 = .ok (.iload_n 1, 1) := by decide +kernel
theorem dX4_recover_330 : decode cX4_recover 330 = .ok (.baload, 1) := by decide +kernel
theorem dX4_recover_331 : decode cX4_recover 331 = .ok (.ifCond .ne 8, 3) := by decide +kernel
theorem dX4_recover_334 : decode cX4_recover 334 = .ok (.iload 5, 2) := by decide +kernel
theorem dX4_recover_336 : decode cX4_recover 336 = .ok (.ifCond .eq 7, 3) := by decide +kernel
theorem dX4_recover_339 : decode cX4_recover 339 = .ok (.iconst 1, 1) := by decide +kernel
theorem dX4_recover_340 : decode cX4_recover 340 = .ok (.goto 4, 3) := by decide +kernel
theorem dX4_recover_343 : decode cX4_recover 343 = .ok (.iconst 0, 1) := by decide +kernel
theorem dX4_recover_344 : decode cX4_recover 344 = .ok (.bastore, 1) := by decide +kernel
theorem dX4_recover_345 : decode cX4_recover 345 = .ok (.aload_n 0, 1) := by decide +kernel
theorem dX4_recover_346 : decode cX4_recover 346 = .ok (.getfield 38, 3) := by decide +kernel
theorem dX4_recover_349 : decode cX4_recover 349 = .ok (.iload_n 1, 1) := by decide +kernel
theorem dX4_recover_350 : decode cX4_recover 350 = .ok (.iload 5, 2) := by decide +kernel
theorem dX4_recover_352 : decode cX4_recover 352 = .ok (.ifCond .eq 8, 3) := by decide +kernel
theorem dX4_recover_355 : decode cX4_recover 355 = .ok (.bipush 7, 2) := by decide +kernel
theorem dX4_recover_357 : decode cX4_recover 357 = .ok (.goto 5, 3) := by decide +kernel
theorem dX4_recover_360 : decode cX4_recover 360 = .ok (.bipush 8, 2) := by decide +kernel
theorem dX4_recover_362 : decode cX4_recover 362 = .ok (.iastore, 1) := by decide +kernel
theorem dX4_recover_363 : decode cX4_recover 363 = .ok (.return_, 1) := by decide +kernel
theorem dX4_configure_0 : decode cX4_configure 0 = .ok (.iconst 1, 1) := by decide +kernel
theorem dX4_configure_1 : decode cX4_configure 1 = .ok (.istore_n 1, 1) := by decide +kernel
theorem dX4_configure_2 : decode cX4_configure 2 = .ok (.iconst 0, 1) := by decide +kernel
theorem dX4_configure_3 : decode cX4_configure 3 = .ok (.istore_n 2, 1) := by decide +kernel
theorem dX4_configure_4 : decode cX4_configure 4 = .ok (.iload_n 2, 1) := by decide +kernel
theorem dX4_configure_5 : decode cX4_configure 5 = .ok (.bipush 6, 2) := by decide +kernel
theorem dX4_configure_7 : decode cX4_configure 7 = .ok (.if_icmp .ge 37, 3) := by decide +kernel
theorem dX4_configure_10 : decode cX4_configure 10 = .ok (.iload_n 1, 1) := by decide +kernel
theorem dX4_configure_11 : decode cX4_configure 11 = .ok (.ifCond .eq 25, 3) := by decide +kernel
theorem dX4_configure_14 : decode cX4_configure 14 = .ok (.aload_n 0, 1) := by decide +kernel
theorem dX4_configure_15 : decode cX4_configure 15 = .ok (.getfield 7, 3) := by decide +kernel
theorem dX4_configure_18 : decode cX4_configure 18 = .ok (.iload_n 2, 1) := by decide +kernel
theorem dX4_configure_19 : decode cX4_configure 19 = .ok (.baload, 1) := by decide +kernel
theorem dX4_configure_20 : decode cX4_configure 20 = .ok (.ifCond .ne 12, 3) := by decide +kernel
theorem dX4_configure_23 : decode cX4_configure 23 = .ok (.aload_n 0, 1) := by decide +kernel
theorem dX4_configure_24 : decode cX4_configure 24 = .ok (.getfield 13, 3) := by decide +kernel
theorem dX4_configure_27 : decode cX4_configure 27 = .ok (.iload_n 2, 1) := by decide +kernel
theorem dX4_configure_28 : decode cX4_configure 28 = .ok (.baload, 1) := by decide +kernel
theorem dX4_configure_29 : decode cX4_configure 29 = .ok (.ifCond .ne 7, 3) := by decide +kernel
theorem dX4_configure_32 : decode cX4_configure 32 = .ok (.iconst 1, 1) := by decide +kernel
theorem dX4_configure_33 : decode cX4_configure 33 = .ok (.goto 4, 3) := by decide +kernel
theorem dX4_configure_36 : decode cX4_configure 36 = .ok (.iconst 0, 1) := by decide +kernel
