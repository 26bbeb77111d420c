theorem dX4_configure_37 : decode cX4_configure 37 = .ok (.istore_n 1, 1) := by decide +kernel
theorem dX4_configure_38 : decode cX4_configure 38 = .ok (.iinc 2 1, 3) := by decide +kernel
theorem dX4_configure_41 : decode cX4_configure 41 = .ok (.goto (-37), 3) := by decide +kernel
theorem dX4_configure_44 : decode cX4_configure 44 = .ok (.iload_n 1, 1) := by decide +kernel
theorem dX4_configure_45 : decode cX4_configure 45 = .ok (.ifCond .ne 10, 3) := by decide +kernel
theorem dX4_configure_48 : decode cX4_configure 48 = .ok (.aload_n 0, 1) := by decide +kernel
theorem dX4_configure_49 : decode cX4_configure 49 = .ok (.invokevirtual 112, 3) := by decide +kernel
theorem dX4_configure_52 : decode cX4_configure 52 = .ok (.ifCond .ne 6, 3) := by decide +kernel
theorem dX4_configure_55 : decode cX4_configure 55 = .ok (.bipush (-3), 2) := by decide +kernel
theorem dX4_configure_57 : decode cX4_configure 57 = .ok (.ireturn, 1) := by decide +kernel
theorem dX4_configure_58 : decode cX4_configure 58 = .ok (.iconst 0, 1) := by decide +kernel
theorem dX4_configure_59 : decode cX4_configure 59 = .ok (.istore_n 2, 1) := by decide +kernel
theorem dX4_configure_60 : decode cX4_configure 60 = .ok (.iload_n 2, 1) := by decide +kernel
theorem dX4_configure_61 : decode cX4_configure 61 = .ok (.aload_n 0, 1) := by decide +kernel
theorem dX4_configure_62 : decode cX4_configure 62 = .ok (.getfield 92, 3) := by decide +kernel
theorem dX4_configure_65 : decode cX4_configure 65 = .ok (.if_icmp .ge 20, 3) := by decide +kernel
theorem dX4_configure_68 : decode cX4_configure 68 = .ok (.aload_n 0, 1) := by decide +kernel
theorem dX4_configure_69 : decode cX4_configure 69 = .ok (.getfield 80, 3) := by decide +kernel
theorem dX4_configure_72 : decode cX4_configure 72 = .ok (.iload_n 2, 1) := by decide +kernel
theorem dX4_configure_73 : decode cX4_configure 73 = .ok (.aload_n 0, 1) := by decide +kernel
theorem dX4_configure_74 : decode cX4_configure 74 = .ok (.iload_n 2, 1) := by decide +kernel
theorem dX4_configure_75 : decode cX4_configure 75 = .ok (.invokevirtual 124, 3) := by decide +kernel
theorem dX4_configure_78 : decode cX4_configure 78 = .ok (.iastore, 1) := by decide +kernel
theorem dX4_configure_79 : decode cX4_configure 79 = .ok (.iinc 2 1, 3) := by decide +kernel
theorem dX4_configure_82 : decode cX4_configure 82 = .ok (.goto (-22), 3) := by decide +kernel
theorem dX4_configure_85 : decode cX4_configure 85 = .ok (.iconst 0, 1) := by decide +kernel
theorem dX4_configure_86 : decode cX4_configure 86 = .ok (.istore_n 2, 1) := by decide +kernel
theorem dX4_configure_87 : decode cX4_configure 87 = .ok (.iload_n 2, 1) := by decide +kernel
theorem dX4_configure_88 : decode cX4_configure 88 = .ok (.bipush 6, 2) := by decide +kernel
theorem dX4_configure_90 : decode cX4_configure 90 = .ok (.if_icmp .ge 33, 3) := by decide +kernel
theorem dX4_configure_93 : decode cX4_configure 93 = .ok (.aload_n 0, 1) := by decide +kernel
theorem dX4_configure_94 : decode cX4_configure 94 = .ok (.getfield 16, 3) := by decide +kernel
theorem dX4_configure_97 : decode cX4_configure 97 = .ok (.iload_n 2, 1) := by decide +kernel
theorem dX4_configure_98 : decode cX4_configure 98 = .ok (.aload_n 0, 1) := by decide +kernel
theorem dX4_configure_99 : decode cX4_configure 99 = .ok (.getfield 13, 3) := by decide +kernel
theorem dX4_configure_102 : decode cX4_configure 102 = .ok (.iload_n 2, 1) := by decide +kernel
theorem dX4_configure_103 : decode cX4_configure 103 = .ok (.baload, 1) := by decide +kernel
theorem dX4_configure_104 : decode cX4_configure 104 = .ok (.bastore, 1) := by decide +kernel
theorem dX4_configure_105 : decode cX4_configure 105 = .ok (.aload_n 0, 1) := by decide +kernel
theorem dX4_configure_106 : decode cX4_configure 106 = .ok (.getfield 13, 3) := by decide +kernel
theorem dX4_configure_109 : decode cX4_configure 109 = .ok (.iload_n 2, 1) := by decide +kernel
theorem dX4_configure_110 : decode cX4_configure 110 = .ok (.aload_n 0, 1) := by decide +kernel
theorem dX4_configure_111 : decode cX4_configure 111 = .ok (.getfield 7, 3) := by decide +kernel
theorem dX4_configure_114 : decode cX4_configure 114 = .ok (.iload_n 2, 1) := by decide +kernel
theorem dX4_configure_115 : decode cX4_configure 115 = .ok (.baload, 1) := by decide +kernel
theorem dX4_configure_116 : decode cX4_configure 116 = .ok (.bastore, 1) := by decide +kernel
theorem dX4_configure_117 : decode cX4_configure 117 = .ok (.iinc 2 1, 3) := by decide +kernel
theorem dX4_configure_120 : decode cX4_configure 120 = .ok (.goto (-33), 3) := by decide +kernel
theorem dX4_configure_123 : decode cX4_configure 123 = .ok (.aload_n 0, 1) := by decide +kernel
theorem dX4_configure_124 : decode cX4_configure 124 = .ok (.dup, 1) := by decide +kernel
theorem dX4_configure_125 : decode cX4_configure 125 = .ok (.getfield 221, 3) := by decide +kernel
theorem dX4_configure_128 : decode cX4_configure 128 = .ok (.iconst 1, 1) := by decide +kernel
theorem dX4_configure_129 : decode cX4_configure 129 = .ok (.iadd, 1) := by decide +kernel
theorem dX4_configure_130 : decode cX4_configure 130 = .ok (.putfield 221, 3) := by decide +kernel
theorem dX4_configure_133 : decode cX4_configure 133 = .ok (.iconst 0, 1) := by decide +kernel
theorem dX4_configure_134 : decode cX4_configure 134 = .ok (.istore_n 2, 1) := by decide +kernel
theorem dX4_configure_135 : decode cX4_configure 135 = .ok (.iconst 0, 1) := by decide +kernel
theorem dX4_configure_136 : decode cX4_configure 136 = .ok (.istore_n 3, 1) := by decide +kernel
theorem dX4_configure_137 : decode cX4_configure 137 = .ok (.iload_n 3, 1) := by decide +kernel
theorem dX4_configure_138 : decode cX4_configure 138 = .ok (.aload_n 0, 1) := by decide +kernel
theorem dX4_configure_139 : decode cX4_configure 139 = .ok (.getfield 130, 3) := by decide +kernel
theorem dX4_configure_142 : decode cX4_configure 142 = .ok (.if_icmp .ge 67, 3) := by decide +kernel
theorem dX4_configure_145 : decode cX4_configure 145 = .ok (.aload_n 0, 1) := by decide +kernel
theorem dX4_configure_146 : decode cX4_configure 146 = .ok (.getfield 38, 3) := by decide +kernel
theorem dX4_configure_149 : decode cX4_configure 149 = .ok (.iload_n 3, 1) := by decide +kernel
theorem dX4_configure_150 : decode cX4_configure 150 = .ok (.iaload, 1) := by decide +kernel
theorem dX4_configure_151 : decode cX4_configure 151 = .ok (.ifCond .ne 28, 3) := by decide +kernel
theorem dX4_configure_154 : decode cX4_configure 154 = .ok (.aload_n 0, 1) := by decide +kernel
theorem dX4_configure_155 : decode cX4_configure 155 = .ok (.getfield 13, 3) := by decide +kernel
theorem dX4_configure_158 : decode cX4_configure 158 = .ok (.aload_n 0, 1) := by decide +kernel
theorem dX4_configure_159 : decode cX4_configure 159 = .ok (.getfield 35, 3) := by decide +kernel
theorem dX4_configure_162 : decode cX4_configure 162 = .ok (.iload_n 3, 1) := by decide +kernel
theorem dX4_configure_163 : decode cX4_configure 163 = .ok (.iaload, 1) := by decide +kernel
theorem dX4_configure_164 : decode cX4_configure 164 = .ok (.baload, 1) := by decide +kernel
theorem dX4_configure_165 : decode cX4_configure 165 = .ok (.ifCond .ne 14, 3) := by decide +kernel
theorem dX4_configure_168 : decode cX4_configure 168 = .ok (.aload_n 0, 1) := by decide +kernel
theorem dX4_configure_169 : decode cX4_configure 169 = .ok (.getfield 38, 3) := by decide +kernel
theorem dX4_configure_172 : decode cX4_configure 172 = .ok (.iload_n 3, 1) := by decide +kernel
theorem dX4_configure_173 : decode cX4_configure 173 = .ok (.bipush 8, 2) := by decide +kernel
theorem dX4_configure_175 : decode cX4_configure 175 = .ok (.iastore, 1) := by decide +kernel
theorem dX4_configure_176 : decode cX4_configure 176 = .ok (.goto 27, 3) := by decide +kernel
theorem dX4_configure_179 : decode cX4_configure 179 = .ok (.aload_n 0, 1) := by decide +kernel
theorem dX4_configure_180 : decode cX4_configure 180 = .ok (.iload_n 3, 1) := by decide +kernel
theorem dX4_configure_181 : decode cX4_configure 181 = .ok (.invokevirtual 133, 3) := by decide +kernel
theorem dX4_configure_184 : decode cX4_configure 184 = .ok (.ifCond .eq 19, 3) := by decide +kernel
theorem dX4_configure_187 : decode cX4_configure 187 = .ok (.aload_n 0, 1) := by decide +kernel
theorem dX4_configure_188 : decode cX4_configure 188 = .ok (.iload_n 3, 1) := by decide +kernel
theorem dX4_configure_189 : decode cX4_configure 189 = .ok (.invokevirtual 224, 3) := by decide +kernel
theorem dX4_configure_192 : decode cX4_configure 192 = .ok (.ifCond .eq 11, 3) := by decide +kernel
theorem dX4_configure_195 : decode cX4_configure 195 = .ok (.aload_n 0, 1) := by decide +kernel
theorem dX4_configure_196 : decode cX4_configure 196 = .ok (.iload_n 3, 1) := by decide +kernel
theorem dX4_configure_197 : decode cX4_configure 197 = .ok (.invokevirtual 227, 3) := by decide +kernel
theorem dX4_configure_200 : decode cX4_configure 200 = .ok (.iinc 2 1, 3) := by decide +kernel
theorem dX4_configure_203 : decode cX4_configure 203 = .ok (.iinc 3 1, 3) := by decide +kernel
theorem dX4_configure_206 : decode cX4_configure 206 = .ok (.goto (-69), 3) := by decide +kernel
theorem dX4_configure_209 : decode cX4_configure 209 = .ok (.iload_n 2, 1) := by decide +kernel
theorem dX4_configure_210 : decode cX4_configure 210 = .ok (.ireturn, 1) := by decide +kernel
theorem dX4_machine_0 : decode cX4_machine 0 = .ok (.iload_n 1, 1) := by decide +kernel
theorem dX4_machine_1 : decode cX4_machine 1 = .ok (.invokestatic 108, 3) := by decide +kernel
theorem dX4_machine_4 : decode cX4_machine 4 = .ok (.ifCond .ne 5, 3) := by decide +kernel
theorem dX4_machine_7 : decode cX4_machine 7 = .ok (.iconst (-1), 1) := by decide +kernel
theorem dX4_machine_8 : decode cX4_machine 8 = .ok (.ireturn, 1) := by decide +kernel
theorem dX4_machine_9 : decode cX4_machine 9 = .ok (.iconst 0, 1) := by decide +kernel
theorem dX4_machine_10 : decode cX4_machine 10 = .ok (.istore_n 3, 1) := by decide +kernel
theorem dX4_machine_11 : decode cX4_machine 11 = .ok (.iconst 0, 1) := by decide +kernel
theorem dX4_machine_12 : decode cX4_machine 12 = .ok (.istore 4, 2) := by decide +kernel
theorem dX4_machine_14 : decode cX4_machine 14 = .ok (.iload 4, 2) := by decide +kernel
theorem dX4_machine_16 : decode cX4_machine 16 = .ok (.aload_n 0, 1) := by decide +kernel
theorem dX4_machine_17 : decode cX4_machine 17 = .ok (.getfield 92, 3) := by decide +kernel
theorem dX4_machine_20 : decode cX4_machine 20 = .ok (.if_icmp .ge 60, 3) := by decide +kernel
theorem dX4_machine_23 : decode cX4_machine 23 = .ok (.iload_n 2, 1) := by decide +kernel
theorem dX4_machine_24 : decode cX4_machine 24 = .ok (.iconst 2, 1) := by decide +kernel
theorem dX4_machine_25 : decode cX4_machine 25 = .ok (.if_icmp .ne 55, 3) := by decide +kernel
theorem dX4_machine_28 : decode cX4_machine 28 = .ok (.iconst 0, 1) := by decide +kernel
theorem dX4_machine_29 : decode cX4_machine 29 = .ok (.istore 5, 2) := by decide +kernel
theorem dX4_machine_31 : decode cX4_machine 31 = .ok (.iload 5, 2) := by decide +kernel
theorem dX4_machine_33 : decode cX4_machine 33 = .ok (.aload_n 0, 1) := by decide +kernel
theorem dX4_machine_34 : decode cX4_machine 34 = .ok (.getfield 19, 3) := by decide +kernel
theorem dX4_machine_37 : decode cX4_machine 37 = .ok (.iload 4, 2) := by decide +kernel
theorem dX4_machine_39 : decode cX4_machine 39 = .ok (.iaload, 1) := by decide +kernel
theorem dX4_machine_40 : decode cX4_machine 40 = .ok (.if_icmp .ge 34, 3) := by decide +kernel
theorem dX4_machine_43 : decode cX4_machine 43 = .ok (.iload_n 3, 1) := by decide +kernel
theorem dX4_machine_44 : decode cX4_machine 44 = .ok (.aload_n 0, 1) := by decide +kernel
theorem dX4_machine_45 : decode cX4_machine 45 = .ok (.getfield 23, 3) := by decide +kernel
theorem dX4_machine_48 : decode cX4_machine 48 = .ok (.bipush 6, 2) := by decide +kernel
theorem dX4_machine_50 : decode cX4_machine 50 = .ok (.iload 4, 2) := by decide +kernel
theorem dX4_machine_52 : decode cX4_machine 52 = .ok (.imul, 1) := by decide +kernel
theorem dX4_machine_53 : decode cX4_machine 53 = .ok (.iload 5, 2) := by decide +kernel
theorem dX4_machine_55 : decode cX4_machine 55 = .ok (.iadd, 1) := by decide +kernel
theorem dX4_machine_56 : decode cX4_machine 56 = .ok (.iaload, 1) := by decide +kernel
theorem dX4_machine_57 : decode cX4_machine 57 = .ok (.iload_n 1, 1) := by decide +kernel
theorem dX4_machine_58 : decode cX4_machine 58 = .ok (.if_icmp .ne 7, 3) := by decide +kernel
theorem dX4_machine_61 : decode cX4_machine 61 = .ok (.iconst 1, 1) := by decide +kernel
theorem dX4_machine_62 : decode cX4_machine 62 = .ok (.goto 4, 3) := by decide +kernel
theorem dX4_machine_65 : decode cX4_machine 65 = .ok (.iconst 0, 1) := by decide +kernel
theorem dX4_machine_66 : decode cX4_machine 66 = .ok (.iadd, 1) := by decide +kernel
theorem dX4_machine_67 : decode cX4_machine 67 = .ok (.istore_n 3, 1) := by decide +kernel
theorem dX4_machine_68 : decode cX4_machine 68 = .ok (.iinc 5 1, 3) := by decide +kernel
theorem dX4_machine_71 : decode cX4_machine 71 = .ok (.goto (-40), 3) := by decide +kernel
theorem dX4_machine_74 : decode cX4_machine 74 = .ok (.iinc 4 1, 3) := by decide +kernel
theorem dX4_machine_77 : decode cX4_machine 77 = .ok (.goto (-63), 3) := by decide +kernel
theorem dX4_machine_80 : decode cX4_machine 80 = .ok (.iconst 0, 1) := by decide +kernel
theorem dX4_machine_81 : decode cX4_machine 81 = .ok (.istore 4, 2) := by decide +kernel
theorem dX4_machine_83 : decode cX4_machine 83 = .ok (.iload 4, 2) := by decide +kernel
theorem dX4_machine_85 : decode cX4_machine 85 = .ok (.aload_n 0, 1) := by decide +kernel
theorem dX4_machine_86 : decode cX4_machine 86 = .ok (.getfield 170, 3) := by decide +kernel
theorem dX4_machine_89 : decode cX4_machine 89 = .ok (.if_icmp .ge 66, 3) := by decide +kernel
theorem dX4_machine_92 : decode cX4_machine 92 = .ok (.iload_n 2, 1) := by decide +kernel
theorem dX4_machine_93 : decode cX4_machine 93 = .ok (.iconst 3, 1) := by decide +kernel
theorem dX4_machine_94 : decode cX4_machine 94 = .ok (.if_icmp .ne 61, 3) := by decide +kernel
theorem dX4_machine_97 : decode cX4_machine 97 = .ok (.iload_n 3, 1) := by decide +kernel
theorem dX4_machine_98 : decode cX4_machine 98 = .ok (.aload_n 0, 1) := by decide +kernel
theorem dX4_machine_99 : decode cX4_machine 99 = .ok (.getfield 74, 3) := by decide +kernel
theorem dX4_machine_102 : decode cX4_machine 102 = .ok (.iload 4, 2) := by decide +kernel
theorem dX4_machine_104 : decode cX4_machine 104 = .ok (.iaload, 1) := by decide +kernel
theorem dX4_machine_105 : decode cX4_machine 105 = .ok (.bipush (-9), 2) := by decide +kernel
theorem dX4_machine_107 : decode cX4_machine 107 = .ok (.if_icmp .eq 39, 3) := by decide +kernel
theorem dX4_machine_110 : decode cX4_machine 110 = .ok (.aload_n 0, 1) := by decide +kernel
theorem dX4_machine_111 : decode cX4_machine 111 = .ok (.getfield 23, 3) := by decide +kernel
theorem dX4_machine_114 : decode cX4_machine 114 = .ok (.bipush 6, 2) := by decide +kernel
theorem dX4_machine_116 : decode cX4_machine 116 = .ok (.aload_n 0, 1) := by decide +kernel
theorem dX4_machine_117 : decode cX4_machine 117 = .ok (.getfield 53, 3) := by decide +kernel
theorem dX4_machine_120 : decode cX4_machine 120 = .ok (.aload_n 0, 1) := by decide +kernel
theorem dX4_machine_121 : decode cX4_machine 121 = .ok (.getfield 74, 3) := by decide +kernel
theorem dX4_machine_124 : decode cX4_machine 124 = .ok (.iload 4, 2) := by decide +kernel
theorem dX4_machine_126 : decode cX4_machine 126 = .ok (.iaload, 1) := by decide +kernel
theorem dX4_machine_127 : decode cX4_machine 127 = .ok (.iaload, 1) := by decide +kernel
theorem dX4_machine_128 : decode cX4_machine 128 = .ok (.imul, 1) := by decide +kernel
theorem dX4_machine_129 : decode cX4_machine 129 = .ok (.aload_n 0, 1) := by decide +kernel
theorem dX4_machine_130 : decode cX4_machine 130 = .ok (.getfield 77, 3) := by decide +kernel
theorem dX4_machine_133 : decode cX4_machine 133 = .ok (.iload 4, 2) := by decide +kernel
theorem dX4_machine_135 : decode cX4_machine 135 = .ok (.iaload, 1) := by decide +kernel
theorem dX4_machine_136 : decode cX4_machine 136 = .ok (.iadd, 1) := by decide +kernel
theorem dX4_machine_137 : decode cX4_machine 137 = .ok (.iaload, 1) := by decide +kernel
theorem dX4_machine_138 : decode cX4_machine 138 = .ok (.iload_n 1, 1) := by decide +kernel
theorem dX4_machine_139 : decode cX4_machine 139 = .ok (.if_icmp .ne 7, 3) := by decide +kernel
theorem dX4_machine_142 : decode cX4_machine 142 = .ok (.iconst 1, 1) := by decide +kernel
theorem dX4_machine_143 : decode cX4_machine 143 = .ok (.goto 4, 3) := by decide +kernel
theorem dX4_machine_146 : decode cX4_machine 146 = .ok (.iconst 0, 1) := by decide +kernel
theorem dX4_machine_147 : decode cX4_machine 147 = .ok (.iadd, 1) := by decide +kernel
theorem dX4_machine_148 : decode cX4_machine 148 = .ok (.istore_n 3, 1) := by decide +kernel
theorem dX4_machine_149 : decode cX4_machine 149 = .ok (.iinc 4 1, 3) := by decide +kernel
theorem dX4_machine_152 : decode cX4_machine 152 = .ok (.goto (-69), 3) := by decide +kernel
theorem dX4_machine_155 : decode cX4_machine 155 = .ok (.iload_n 2, 1) := by decide +kernel
theorem dX4_machine_156 : decode cX4_machine 156 = .ok (.ifCond .ne 20, 3) := by decide +kernel
theorem dX4_machine_159 : decode cX4_machine 159 = .ok (.aload_n 0, 1) := by decide +kernel
theorem dX4_machine_160 : decode cX4_machine 160 = .ok (.getfield 7, 3) := by decide +kernel
theorem dX4_machine_163 : decode cX4_machine 163 = .ok (.iload_n 1, 1) := by decide +kernel
theorem dX4_machine_164 : decode cX4_machine 164 = .ok (.baload, 1) := by decide +kernel
theorem dX4_machine_165 : decode cX4_machine 165 = .ok (.ifCond .eq 7, 3) := by decide +kernel
theorem dX4_machine_168 : decode cX4_machine 168 = .ok (.iconst 1, 1) := by decide +kernel
theorem dX4_machine_169 : decode cX4_machine 169 = .ok (.goto 49, 3) := by decide +kernel
theorem dX4_machine_172 : decode cX4_machine 172 = .ok (.iconst 0, 1) := by decide +kernel
theorem dX4_machine_173 : decode cX4_machine 173 = .ok (.goto 45, 3) := by decide +kernel
theorem dX4_machine_176 : decode cX4_machine 176 = .ok (.iload_n 2, 1) := by decide +kernel
theorem dX4_machine_177 : decode cX4_machine 177 = .ok (.iconst 1, 1) := by decide +kernel
theorem dX4_machine_178 : decode cX4_machine 178 = .ok (.if_icmp .ne 20, 3) := by decide +kernel
theorem dX4_machine_181 : decode cX4_machine 181 = .ok (.aload_n 0, 1) := by decide +kernel
theorem dX4_machine_182 : decode cX4_machine 182 = .ok (.getfield 13, 3) := by decide +kernel
theorem dX4_machine_185 : decode cX4_machine 185 = .ok (.iload_n 1, 1) := by decide +kernel
theorem dX4_machine_186 : decode cX4_machine 186 = .ok (.baload, 1) := by decide +kernel
theorem dX4_machine_187 : decode cX4_machine 187 = .ok (.ifCond .eq 7, 3) := by decide +kernel
theorem dX4_machine_190 : decode cX4_machine 190 = .ok (.iconst 1, 1) := by decide +kernel
theorem dX4_machine_191 : decode cX4_machine 191 = .ok (.goto 27, 3) := by decide +kernel
theorem dX4_machine_194 : decode cX4_machine 194 = .ok (.iconst 0, 1) := by decide +kernel
theorem dX4_machine_195 : decode cX4_machine 195 = .ok (.goto 23, 3) := by decide +kernel
theorem dX4_machine_198 : decode cX4_machine 198 = .ok (.iload_n 2, 1) := by decide +kernel
theorem dX4_machine_199 : decode cX4_machine 199 = .ok (.i2l, 1) := by decide +kernel
theorem dX4_machine_200 : decode cX4_machine 200 = .ok (.ldc2_w 230, 3) := by decide +kernel
theorem dX4_machine_203 : decode cX4_machine 203 = .ok (.ldc2_w 232, 3) := by decide +kernel
theorem dX4_machine_206 : decode cX4_machine 206 = .ok (.invokestatic 88, 3) := by decide +kernel
theorem dX4_machine_209 : decode cX4_machine 209 = .ok (.ifCond .eq 7, 3) := by decide +kernel
theorem dX4_machine_212 : decode cX4_machine 212 = .ok (.iload_n 3, 1) := by decide +kernel
theorem dX4_machine_213 : decode cX4_machine 213 = .ok (.goto 5, 3) := by decide +kernel
theorem dX4_machine_216 : decode cX4_machine 216 = .ok (.bipush (-2), 2) := by decide +kernel
theorem dX4_machine_218 : decode cX4_machine 218 = .ok (.ireturn, 1) := by decide +kernel
theorem dX4_copyAt_0 : decode cX4_copyAt 0 = .ok (.aload_n 0, 1) := by decide +kernel
theorem dX4_copyAt_1 : decode cX4_copyAt 1 = .ok (.iload_n 1, 1) := by decide +kernel
theorem dX4_copyAt_2 : decode cX4_copyAt 2 = .ok (.invokevirtual 118, 3) := by decide +kernel
theorem dX4_copyAt_5 : decode cX4_copyAt 5 = .ok (.ifCond .ne 5, 3) := by decide +kernel
theorem dX4_copyAt_8 : decode cX4_copyAt 8 = .ok (.iconst (-1), 1) := by decide +kernel
theorem dX4_copyAt_9 : decode cX4_copyAt 9 = .ok (.ireturn, 1) := by decide +kernel
theorem dX4_copyAt_10 : decode cX4_copyAt 10 = .ok (.aload_n 0, 1) := by decide +kernel
theorem dX4_copyAt_11 : decode cX4_copyAt 11 = .ok (.iload_n 1, 1) := by decide +kernel
theorem dX4_copyAt_12 : decode cX4_copyAt 12 = .ok (.iload_n 2, 1) := by decide +kernel
theorem dX4_copyAt_13 : decode cX4_copyAt 13 = .ok (.invokevirtual 104, 3) := by decide +kernel
theorem dX4_copyAt_16 : decode cX4_copyAt 16 = .ok (.istore_n 3, 1) := by decide +kernel
theorem dX4_copyAt_17 : decode cX4_copyAt 17 = .ok (.iload_n 3, 1) := by decide +kernel
theorem dX4_copyAt_18 : decode cX4_copyAt 18 = .ok (.bipush (-9), 2) := by decide +kernel
theorem dX4_copyAt_20 : decode cX4_copyAt 20 = .ok (.if_icmp .ne 8, 3) := by decide +kernel
theorem dX4_copyAt_23 : decode cX4_copyAt 23 = .ok (.bipush (-9), 2) := by decide +kernel
theorem dX4_copyAt_25 : decode cX4_copyAt 25 = .ok (.goto 14, 3) := by decide +kernel
theorem dX4_copyAt_28 : decode cX4_copyAt 28 = .ok (.aload_n 0, 1) := by decide +kernel
theorem dX4_copyAt_29 : decode cX4_copyAt 29 = .ok (.getfield 23, 3) := by decide +kernel
theorem dX4_copyAt_32 : decode cX4_copyAt 32 = .ok (.bipush 6, 2) := by decide +kernel
theorem dX4_copyAt_34 : decode cX4_copyAt 34 = .ok (.iload_n 1, 1) := by decide +kernel
theorem dX4_copyAt_35 : decode cX4_copyAt 35 = .ok (.imul, 1) := by decide +kernel
theorem dX4_copyAt_36 : decode cX4_copyAt 36 = .ok (.iload_n 3, 1) := by decide +kernel
theorem dX4_copyAt_37 : decode cX4_copyAt 37 = .ok (.iadd, 1) := by decide +kernel
theorem dX4_copyAt_38 : decode cX4_copyAt 38 = .ok (.iaload, 1) := by decide +kernel
theorem dX4_copyAt_39 : decode cX4_copyAt 39 = .ok (.ireturn, 1) := by decide +kernel
theorem dX4_object_0 : decode cX4_object 0 = .ok (.aload_n 0, 1) := by decide +kernel
theorem dX4_object_1 : decode cX4_object 1 = .ok (.iload_n 1, 1) := by decide +kernel
theorem dX4_object_2 : decode cX4_object 2 = .ok (.invokevirtual 118, 3) := by decide +kernel
theorem dX4_object_5 : decode cX4_object 5 = .ok (.ifCond .eq 26, 3) := by decide +kernel
theorem dX4_object_8 : decode cX4_object 8 = .ok (.iload_n 3, 1) := by decide +kernel
theorem dX4_object_9 : decode cX4_object 9 = .ok (.i2l, 1) := by decide +kernel
theorem dX4_object_10 : decode cX4_object 10 = .ok (.lconst 0, 1) := by decide +kernel
theorem dX4_object_11 : decode cX4_object 11 = .ok (.ldc2_w 146, 3) := by decide +kernel
theorem dX4_object_14 : decode cX4_object 14 = .ok (.invokestatic 88, 3) := by decide +kernel
theorem dX4_object_17 : decode cX4_object 17 = .ok (.ifCond .eq 14, 3) := by decide +kernel
theorem dX4_object_20 : decode cX4_object 20 = .ok (.aload_n 0, 1) := by decide +kernel
theorem dX4_object_21 : decode cX4_object 21 = .ok (.iload_n 1, 1) := by decide +kernel
theorem dX4_object_22 : decode cX4_object 22 = .ok (.iload_n 2, 1) := by decide +kernel
theorem dX4_object_23 : decode cX4_object 23 = .ok (.invokevirtual 104, 3) := by decide +kernel
theorem dX4_object_26 : decode cX4_object 26 = .ok (.bipush (-9), 2) := by decide +kernel
theorem dX4_object_28 : decode cX4_object 28 = .ok (.if_icmp .ne 5, 3) := by decide +kernel
theorem dX4_object_31 : decode cX4_object 31 = .ok (.iconst (-1), 1) := by decide +kernel
theorem dX4_object_32 : decode cX4_object 32 = .ok (.ireturn, 1) := by decide +kernel
theorem dX4_object_33 : decode cX4_object 33 = .ok (.aload_n 0, 1) := by decide +kernel
theorem dX4_object_34 : decode cX4_object 34 = .ok (.iload_n 1, 1) := by decide +kernel
theorem dX4_object_35 : decode cX4_object 35 = .ok (.iload_n 2, 1) := by decide +kernel
theorem dX4_object_36 : decode cX4_object 36 = .ok (.invokevirtual 104, 3) := by decide +kernel
theorem dX4_object_39 : decode cX4_object 39 = .ok (.istore 5, 2) := by decide +kernel
theorem dX4_object_41 : decode cX4_object 41 = .ok (.bipush 8, 2) := by decide +kernel
theorem dX4_object_43 : decode cX4_object 43 = .ok (.bipush 6, 2) := by decide +kernel
theorem dX4_object_45 : decode cX4_object 45 = .ok (.iload_n 1, 1) := by decide +kernel
theorem dX4_object_46 : decode cX4_object 46 = .ok (.imul, 1) := by decide +kernel
theorem dX4_object_47 : decode cX4_object 47 = .ok (.iload 5, 2) := by decide +kernel
theorem dX4_object_49 : decode cX4_object 49 = .ok (.iadd, 1) := by decide +kernel
theorem dX4_object_50 : decode cX4_object 50 = .ok (.imul, 1) := by decide +kernel
theorem dX4_object_51 : decode cX4_object 51 = .ok (.iload_n 3, 1) := by decide +kernel
theorem dX4_object_52 : decode cX4_object 52 = .ok (.iadd, 1) := by decide +kernel
theorem dX4_object_53 : decode cX4_object 53 = .ok (.istore 6, 2) := by decide +kernel
theorem dX4_object_55 : decode cX4_object 55 = .ok (.iconst 0, 1) := by decide +kernel
theorem dX4_object_56 : decode cX4_object 56 = .ok (.istore 7, 2) := by decide +kernel
theorem dX4_object_58 : decode cX4_object 58 = .ok (.iconst 0, 1) := by decide +kernel
theorem dX4_object_59 : decode cX4_object 59 = .ok (.istore 8, 2) := by decide +kernel
theorem dX4_object_61 : decode cX4_object 61 = .ok (.iload 8, 2) := by decide +kernel
theorem dX4_object_63 : decode cX4_object 63 = .ok (.aload_n 0, 1) := by decide +kernel
theorem dX4_object_64 : decode cX4_object 64 = .ok (.getfield 170, 3) := by decide +kernel
theorem dX4_object_67 : decode cX4_object 67 = .ok (.if_icmp .ge 69, 3) := by decide +kernel
theorem dX4_object_70 : decode cX4_object 70 = .ok (.aload_n 0, 1) := by decide +kernel
theorem dX4_object_71 : decode cX4_object 71 = .ok (.getfield 74, 3) := by decide +kernel
theorem dX4_object_74 : decode cX4_object 74 = .ok (.iload 8, 2) := by decide +kernel
theorem dX4_object_76 : decode cX4_object 76 = .ok (.iaload, 1) := by decide +kernel
theorem dX4_object_77 : decode cX4_object 77 = .ok (.istore 9, 2) := by decide +kernel
theorem dX4_object_79 : decode cX4_object 79 = .ok (.iload 7, 2) := by decide +kernel
theorem dX4_object_81 : decode cX4_object 81 = .ok (.iload 9, 2) := by decide +kernel
theorem dX4_object_83 : decode cX4_object 83 = .ok (.bipush (-9), 2) := by decide +kernel
theorem dX4_object_85 : decode cX4_object 85 = .ok (.if_icmp .eq 41, 3) := by decide +kernel
theorem dX4_object_88 : decode cX4_object 88 = .ok (.aload_n 0, 1) := by decide +kernel
theorem dX4_object_89 : decode cX4_object 89 = .ok (.getfield 53, 3) := by decide +kernel
theorem dX4_object_92 : decode cX4_object 92 = .ok (.iload 9, 2) := by decide +kernel
theorem dX4_object_94 : decode cX4_object 94 = .ok (.iaload, 1) := by decide +kernel
theorem dX4_object_95 : decode cX4_object 95 = .ok (.iload_n 1, 1) := by decide +kernel
theorem dX4_object_96 : decode cX4_object 96 = .ok (.if_icmp .ne 30, 3) := by decide +kernel
theorem dX4_object_99 : decode cX4_object 99 = .ok (.aload_n 0, 1) := by decide +kernel
theorem dX4_object_100 : decode cX4_object 100 = .ok (.getfield 56, 3) := by decide +kernel
theorem dX4_object_103 : decode cX4_object 103 = .ok (.iload 9, 2) := by decide +kernel
theorem dX4_object_105 : decode cX4_object 105 = .ok (.iaload, 1) := by decide +kernel
theorem dX4_object_106 : decode cX4_object 106 = .ok (.iload_n 3, 1) := by decide +kernel
theorem dX4_object_107 : decode cX4_object 107 = .ok (.if_icmp .ne 19, 3) := by decide +kernel
theorem dX4_object_110 : decode cX4_object 110 = .ok (.aload_n 0, 1) := by decide +kernel
theorem dX4_object_111 : decode cX4_object 111 = .ok (.getfield 77, 3) := by decide +kernel
theorem dX4_object_114 : decode cX4_object 114 = .ok (.iload 8, 2) := by decide +kernel
theorem dX4_object_116 : decode cX4_object 116 = .ok (.iaload, 1) := by decide +kernel
theorem dX4_object_117 : decode cX4_object 117 = .ok (.iload 5, 2) := by decide +kernel
theorem dX4_object_119 : decode cX4_object 119 = .ok (.if_icmp .ne 7, 3) := by decide +kernel
theorem dX4_object_122 : decode cX4_object 122 = .ok (.iconst 1, 1) := by decide +kernel
theorem dX4_object_123 : decode cX4_object 123 = .ok (.goto 4, 3) := by decide +kernel
theorem dX4_object_126 : decode cX4_object 126 = .ok (.iconst 0, 1) := by decide +kernel
theorem dX4_object_127 : decode cX4_object 127 = .ok (.iadd, 1) := by decide +kernel
theorem dX4_object_128 : decode cX4_object 128 = .ok (.istore 7, 2) := by decide +kernel
theorem dX4_object_130 : decode cX4_object 130 = .ok (.iinc 8 1, 3) := by decide +kernel
theorem dX4_object_133 : decode cX4_object 133 = .ok (.goto (-72), 3) := by decide +kernel
theorem dX4_object_136 : decode cX4_object 136 = .ok (.iload 4, 2) := by decide +kernel
theorem dX4_object_138 : decode cX4_object 138 = .ok (.tableswitch 70 0 3 #[30, 38, 46, 67], 30) := by decide +kernel
theorem dX4_object_168 : decode cX4_object 168 = .ok (.aload_n 0, 1) := by decide +kernel
theorem dX4_object_169 : decode cX4_object 169 = .ok (.getfield 26, 3) := by decide +kernel
theorem dX4_object_172 : decode cX4_object 172 = .ok (.iload 6, 2) := by decide +kernel
theorem dX4_object_174 : decode cX4_object 174 = .ok (.iaload, 1) := by decide +kernel
theorem dX4_object_175 : decode cX4_object 175 = .ok (.ireturn, 1) := by decide +kernel
theorem dX4_object_176 : decode cX4_object 176 = .ok (.aload_n 0, 1) := by decide +kernel
theorem dX4_object_177 : decode cX4_object 177 = .ok (.getfield 29, 3) := by decide +kernel
theorem dX4_object_180 : decode cX4_object 180 = .ok (.iload 6, 2) := by decide +kernel
theorem dX4_object_182 : decode cX4_object 182 = .ok (.iaload, 1) := by decide +kernel
theorem dX4_object_183 : decode cX4_object 183 = .ok (.ireturn, 1) := by decide +kernel
theorem dX4_object_184 : decode cX4_object 184 = .ok (.iload_n 2, 1) := by decide +kernel
theorem dX4_object_185 : decode cX4_object 185 = .ok (.ifCond .ne 17, 3) := by decide +kernel
theorem dX4_object_188 : decode cX4_object 188 = .ok (.aload_n 0, 1) := by decide +kernel
theorem dX4_object_189 : decode cX4_object 189 = .ok (.getfield 32, 3) := by decide +kernel
theorem dX4_object_192 : decode cX4_object 192 = .ok (.bipush 8, 2) := by decide +kernel
theorem dX4_object_194 : decode cX4_object 194 = .ok (.iload_n 1, 1) := by decide +kernel
theorem dX4_object_195 : decode cX4_object 195 = .ok (.imul, 1) := by decide +kernel
theorem dX4_object_196 : decode cX4_object 196 = .ok (.iload_n 3, 1) := by decide +kernel
theorem dX4_object_197 : decode cX4_object 197 = .ok (.iadd, 1) := by decide +kernel
theorem dX4_object_198 : decode cX4_object 198 = .ok (.iaload, 1) := by decide +kernel
theorem dX4_object_199 : decode cX4_object 199 = .ok (.goto 5, 3) := by decide +kernel
theorem dX4_object_202 : decode cX4_object 202 = .ok (.bipush (-9), 2) := by decide +kernel
theorem dX4_object_204 : decode cX4_object 204 = .ok (.ireturn, 1) := by decide +kernel
theorem dX4_object_205 : decode cX4_object 205 = .ok (.iload 7, 2) := by decide +kernel
theorem dX4_object_207 : decode cX4_object 207 = .ok (.ireturn, 1) := by decide +kernel
theorem dX4_object_208 : decode cX4_object 208 = .ok (.bipush (-2), 2) := by decide +kernel
theorem dX4_object_210 : decode cX4_object 210 = .ok (.ireturn, 1) := by decide +kernel
theorem dX4_about_0 : decode cX4_about 0 = .ok (.aload_n 0, 1) := by decide +kernel
theorem dX4_about_1 : decode cX4_about 1 = .ok (.iload_n 1, 1) := by decide +kernel
theorem dX4_about_2 : decode cX4_about 2 = .ok (.invokevirtual 143, 3) := by decide +kernel
theorem dX4_about_5 : decode cX4_about 5 = .ok (.ifCond .ne 5, 3) := by decide +kernel
theorem dX4_about_8 : decode cX4_about 8 = .ok (.iconst (-1), 1) := by decide +kernel
theorem dX4_about_9 : decode cX4_about 9 = .ok (.ireturn, 1) := by decide +kernel
theorem dX4_about_10 : decode cX4_about 10 = .ok (.iload_n 2, 1) := by decide +kernel
theorem dX4_about_11 : decode cX4_about 11 = .ok (.tableswitch 86 0 5 #[37, 44, 51, 58, 64, 79], 37) := by decide +kernel
theorem dX4_about_48 : decode cX4_about 48 = .ok (.aload_n 0, 1) := by decide +kernel
theorem dX4_about_49 : decode cX4_about 49 = .ok (.getfield 38, 3) := by decide +kernel
theorem dX4_about_52 : decode cX4_about 52 = .ok (.iload_n 1, 1) := by decide +kernel
theorem dX4_about_53 : decode cX4_about 53 = .ok (.iaload, 1) := by decide +kernel
theorem dX4_about_54 : decode cX4_about 54 = .ok (.ireturn, 1) := by decide +kernel
theorem dX4_about_55 : decode cX4_about 55 = .ok (.aload_n 0, 1) := by decide +kernel
theorem dX4_about_56 : decode cX4_about 56 = .ok (.getfield 35, 3) := by decide +kernel
theorem dX4_about_59 : decode cX4_about 59 = .ok (.iload_n 1, 1) := by decide +kernel
theorem dX4_about_60 : decode cX4_about 60 = .ok (.iaload, 1) := by decide +kernel
theorem dX4_about_61 : decode cX4_about 61 = .ok (.ireturn, 1) := by decide +kernel
theorem dX4_about_62 : decode cX4_about 62 = .ok (.aload_n 0, 1) := by decide +kernel
theorem dX4_about_63 : decode cX4_about 63 = .ok (.getfield 44, 3) := by decide +kernel
theorem dX4_about_66 : decode cX4_about 66 = .ok (.iload_n 1, 1) := by decide +kernel
theorem dX4_about_67 : decode cX4_about 67 = .ok (.iaload, 1) := by decide +kernel
theorem dX4_about_68 : decode cX4_about 68 = .ok (.ireturn, 1) := by decide +kernel
theorem dX4_about_69 : decode cX4_about 69 = .ok (.aload_n 0, 1) := by decide +kernel
theorem dX4_about_70 : decode cX4_about 70 = .ok (.iload_n 1, 1) := by decide +kernel
theorem dX4_about_71 : decode cX4_about 71 = .ok (.invokevirtual 161, 3) := by decide +kernel
theorem dX4_about_74 : decode cX4_about 74 = .ok (.ireturn, 1) := by decide +kernel
theorem dX4_about_75 : decode cX4_about 75 = .ok (.aload_n 0, 1) := by decide +kernel
theorem dX4_about_76 : decode cX4_about 76 = .ok (.getfield 47, 3) := by decide +kernel
theorem dX4_about_79 : decode cX4_about 79 = .ok (.iload_n 1, 1) := by decide +kernel
theorem dX4_about_80 : decode cX4_about 80 = .ok (.baload, 1) := by decide +kernel
theorem dX4_about_81 : decode cX4_about 81 = .ok (.ifCond .eq 7, 3) := by decide +kernel
theorem dX4_about_84 : decode cX4_about 84 = .ok (.iconst 1, 1) := by decide +kernel
theorem dX4_about_85 : decode cX4_about 85 = .ok (.goto 4, 3) := by decide +kernel
theorem dX4_about_88 : decode cX4_about 88 = .ok (.iconst 0, 1) := by decide +kernel
theorem dX4_about_89 : decode cX4_about 89 = .ok (.ireturn, 1) := by decide +kernel
theorem dX4_about_90 : decode cX4_about 90 = .ok (.aload_n 0, 1) := by decide +kernel
theorem dX4_about_91 : decode cX4_about 91 = .ok (.getfield 50, 3) := by decide +kernel
theorem dX4_about_94 : decode cX4_about 94 = .ok (.iload_n 1, 1) := by decide +kernel
theorem dX4_about_95 : decode cX4_about 95 = .ok (.iaload, 1) := by decide +kernel
theorem dX4_about_96 : decode cX4_about 96 = .ok (.ireturn, 1) := by decide +kernel
theorem dX4_about_97 : decode cX4_about 97 = .ok (.bipush (-2), 2) := by decide +kernel
theorem dX4_about_99 : decode cX4_about 99 = .ok (.ireturn, 1) := by decide +kernel
theorem dX4_item_0 : decode cX4_item 0 = .ok (.aload_n 0, 1) := by decide +kernel
theorem dX4_item_1 : decode cX4_item 1 = .ok (.iload_n 1, 1) := by decide +kernel
theorem dX4_item_2 : decode cX4_item 2 = .ok (.invokevirtual 143, 3) := by decide +kernel
theorem dX4_item_5 : decode cX4_item 5 = .ok (.ifCond .eq 21, 3) := by decide +kernel
theorem dX4_item_8 : decode cX4_item 8 = .ok (.iload_n 2, 1) := by decide +kernel
theorem dX4_item_9 : decode cX4_item 9 = .ok (.i2l, 1) := by decide +kernel
theorem dX4_item_10 : decode cX4_item 10 = .ok (.lconst 0, 1) := by decide +kernel
theorem dX4_item_11 : decode cX4_item 11 = .ok (.aload_n 0, 1) := by decide +kernel
theorem dX4_item_12 : decode cX4_item 12 = .ok (.getfield 44, 3) := by decide +kernel
theorem dX4_item_15 : decode cX4_item 15 = .ok (.iload_n 1, 1) := by decide +kernel
theorem dX4_item_16 : decode cX4_item 16 = .ok (.iaload, 1) := by decide +kernel
theorem dX4_item_17 : decode cX4_item 17 = .ok (.iconst 1, 1) := by decide +kernel
theorem dX4_item_18 : decode cX4_item 18 = .ok (.isub, 1) := by decide +kernel
theorem dX4_item_19 : decode cX4_item 19 = .ok (.i2l, 1) := by decide +kernel
theorem dX4_item_20 : decode cX4_item 20 = .ok (.invokestatic 88, 3) := by decide +kernel
theorem dX4_item_23 : decode cX4_item 23 = .ok (.ifCond .ne 5, 3) := by decide +kernel
theorem dX4_item_26 : decode cX4_item 26 = .ok (.iconst (-1), 1) := by decide +kernel
theorem dX4_item_27 : decode cX4_item 27 = .ok (.ireturn, 1) := by decide +kernel
theorem dX4_item_28 : decode cX4_item 28 = .ok (.bipush 8, 2) := by decide +kernel
theorem dX4_item_30 : decode cX4_item 30 = .ok (.iload_n 1, 1) := by decide +kernel
theorem dX4_item_31 : decode cX4_item 31 = .ok (.imul, 1) := by decide +kernel
theorem dX4_item_32 : decode cX4_item 32 = .ok (.iload_n 2, 1) := by decide +kernel
theorem dX4_item_33 : decode cX4_item 33 = .ok (.iadd, 1) := by decide +kernel
theorem dX4_item_34 : decode cX4_item 34 = .ok (.istore 4, 2) := by decide +kernel
theorem dX4_item_36 : decode cX4_item 36 = .ok (.iload_n 3, 1) := by decide +kernel
theorem dX4_item_37 : decode cX4_item 37 = .ok (.tableswitch 90 0 4 #[35, 43, 51, 59, 67], 35) := by decide +kernel
theorem dX4_item_72 : decode cX4_item 72 = .ok (.aload_n 0, 1) := by decide +kernel
theorem dX4_item_73 : decode cX4_item 73 = .ok (.getfield 53, 3) := by decide +kernel
theorem dX4_item_76 : decode cX4_item 76 = .ok (.iload 4, 2) := by decide +kernel
theorem dX4_item_78 : decode cX4_item 78 = .ok (.iaload, 1) := by decide +kernel
theorem dX4_item_79 : decode cX4_item 79 = .ok (.ireturn, 1) := by decide +kernel
theorem dX4_item_80 : decode cX4_item 80 = .ok (.aload_n 0, 1) := by decide +kernel
theorem dX4_item_81 : decode cX4_item 81 = .ok (.getfield 56, 3) := by decide +kernel
theorem dX4_item_84 : decode cX4_item 84 = .ok (.iload 4, 2) := by decide +kernel
theorem dX4_item_86 : decode cX4_item 86 = .ok (.iaload, 1) := by decide +kernel
theorem dX4_item_87 : decode cX4_item 87 = .ok (.ireturn, 1) := by decide +kernel
theorem dX4_item_88 : decode cX4_item 88 = .ok (.aload_n 0, 1) := by decide +kernel
theorem dX4_item_89 : decode cX4_item 89 = .ok (.getfield 59, 3) := by decide +kernel
theorem dX4_item_92 : decode cX4_item 92 = .ok (.iload 4, 2) := by decide +kernel
theorem dX4_item_94 : decode cX4_item 94 = .ok (.iaload, 1) := by decide +kernel
theorem dX4_item_95 : decode cX4_item 95 = .ok (.ireturn, 1) := by decide +kernel
theorem dX4_item_96 : decode cX4_item 96 = .ok (.aload_n 0, 1) := by decide +kernel
theorem dX4_item_97 : decode cX4_item 97 = .ok (.getfield 62, 3) := by decide +kernel
theorem dX4_item_100 : decode cX4_item 100 = .ok (.iload 4, 2) := by decide +kernel
theorem dX4_item_102 : decode cX4_item 102 = .ok (.iaload, 1) := by decide +kernel
theorem dX4_item_103 : decode cX4_item 103 = .ok (.ireturn, 1) := by decide +kernel
theorem dX4_item_104 : decode cX4_item 104 = .ok (.aload_n 0, 1) := by decide +kernel
theorem dX4_item_105 : decode cX4_item 105 = .ok (.getfield 65, 3) := by decide +kernel
theorem dX4_item_108 : decode cX4_item 108 = .ok (.iload 4, 2) := by decide +kernel
theorem dX4_item_110 : decode cX4_item 110 = .ok (.baload, 1) := by decide +kernel
theorem dX4_item_111 : decode cX4_item 111 = .ok (.ifCond .eq 13, 3) := by decide +kernel
theorem dX4_item_114 : decode cX4_item 114 = .ok (.aload_n 0, 1) := by decide +kernel
theorem dX4_item_115 : decode cX4_item 115 = .ok (.getfield 68, 3) := by decide +kernel
theorem dX4_item_118 : decode cX4_item 118 = .ok (.iload 4, 2) := by decide +kernel
theorem dX4_item_120 : decode cX4_item 120 = .ok (.iaload, 1) := by decide +kernel
theorem dX4_item_121 : decode cX4_item 121 = .ok (.goto 5, 3) := by decide +kernel
theorem dX4_item_124 : decode cX4_item 124 = .ok (.bipush (-9), 2) := by decide +kernel
theorem dX4_item_126 : decode cX4_item 126 = .ok (.ireturn, 1) := by decide +kernel
theorem dX4_item_127 : decode cX4_item 127 = .ok (.bipush (-2), 2) := by decide +kernel
theorem dX4_item_129 : decode cX4_item 129 = .ok (.ireturn, 1) := by decide +kernel
theorem dX4_check_0 : decode cX4_check 0 = .ok (.iconst 0, 1) := by decide +kernel
theorem dX4_check_1 : decode cX4_check 1 = .ok (.istore_n 1, 1) := by decide +kernel
theorem dX4_check_2 : decode cX4_check 2 = .ok (.iload_n 1, 1) := by decide +kernel
theorem dX4_check_3 : decode cX4_check 3 = .ok (.bipush 48, 2) := by decide +kernel
theorem dX4_check_5 : decode cX4_check 5 = .ok (.if_icmp .ge 16, 3) := by decide +kernel
theorem dX4_check_8 : decode cX4_check 8 = .ok (.aload_n 0, 1) := by decide +kernel
theorem dX4_check_9 : decode cX4_check 9 = .ok (.getfield 83, 3) := by decide +kernel
theorem dX4_check_12 : decode cX4_check 12 = .ok (.iload_n 1, 1) := by decide +kernel
theorem dX4_check_13 : decode cX4_check 13 = .ok (.iconst 0, 1) := by decide +kernel
theorem dX4_check_14 : decode cX4_check 14 = .ok (.iastore, 1) := by decide +kernel
theorem dX4_check_15 : decode cX4_check 15 = .ok (.iinc 1 1, 3) := by decide +kernel
theorem dX4_check_18 : decode cX4_check 18 = .ok (.goto (-16), 3) := by decide +kernel
theorem dX4_check_21 : decode cX4_check 21 = .ok (.iconst 1, 1) := by decide +kernel
theorem dX4_check_22 : decode cX4_check 22 = .ok (.istore_n 1, 1) := by decide +kernel
theorem dX4_check_23 : decode cX4_check 23 = .ok (.iload_n 1, 1) := by decide +kernel
theorem dX4_check_24 : decode cX4_check 24 = .ok (.aload_n 0, 1) := by decide +kernel
theorem dX4_check_25 : decode cX4_check 25 = .ok (.getfield 189, 3) := by decide +kernel
theorem dX4_check_28 : decode cX4_check 28 = .ok (.if_icmp .gt 180, 3) := by decide +kernel
theorem dX4_check_31 : decode cX4_check 31 = .ok (.iconst 0, 1) := by decide +kernel
theorem dX4_check_32 : decode cX4_check 32 = .ok (.istore_n 2, 1) := by decide +kernel
theorem dX4_check_33 : decode cX4_check 33 = .ok (.iload_n 2, 1) := by decide +kernel
theorem dX4_check_34 : decode cX4_check 34 = .ok (.aload_n 0, 1) := by decide +kernel
theorem dX4_check_35 : decode cX4_check 35 = .ok (.getfield 130, 3) := by decide +kernel
theorem dX4_check_38 : decode cX4_check 38 = .ok (.if_icmp .ge 164, 3) := by decide +kernel
theorem dX4_check_41 : decode cX4_check 41 = .ok (.aload_n 0, 1) := by decide +kernel
theorem dX4_check_42 : decode cX4_check 42 = .ok (.getfield 50, 3) := by decide +kernel
theorem dX4_check_45 : decode cX4_check 45 = .ok (.iload_n 2, 1) := by decide +kernel
theorem dX4_check_46 : decode cX4_check 46 = .ok (.iaload, 1) := by decide +kernel
theorem dX4_check_47 : decode cX4_check 47 = .ok (.iload_n 1, 1) := by decide +kernel
theorem dX4_check_48 : decode cX4_check 48 = .ok (.if_icmp .ne 148, 3) := by decide +kernel
theorem dX4_check_51 : decode cX4_check 51 = .ok (.aload_n 0, 1) := by decide +kernel
theorem dX4_check_52 : decode cX4_check 52 = .ok (.getfield 38, 3) := by decide +kernel
theorem dX4_check_55 : decode cX4_check 55 = .ok (.iload_n 2, 1) := by decide +kernel
theorem dX4_check_56 : decode cX4_check 56 = .ok (.iaload, 1) := by decide +kernel
theorem dX4_check_57 : decode cX4_check 57 = .ok (.bipush 7, 2) := by decide +kernel
theorem dX4_check_59 : decode cX4_check 59 = .ok (.if_icmp .ne 137, 3) := by decide +kernel
theorem dX4_check_62 : decode cX4_check 62 = .ok (.bipush 8, 2) := by decide +kernel
theorem dX4_check_64 : decode cX4_check 64 = .ok (.iload_n 2, 1) := by decide +kernel
theorem dX4_check_65 : decode cX4_check 65 = .ok (.imul, 1) := by decide +kernel
theorem dX4_check_66 : decode cX4_check 66 = .ok (.istore_n 3, 1) := by decide +kernel
theorem dX4_check_67 : decode cX4_check 67 = .ok (.iload_n 3, 1) := by decide +kernel
theorem dX4_check_68 : decode cX4_check 68 = .ok (.bipush 8, 2) := by decide +kernel
theorem dX4_check_70 : decode cX4_check 70 = .ok (.iload_n 2, 1) := by decide +kernel
theorem dX4_check_71 : decode cX4_check 71 = .ok (.imul, 1) := by decide +kernel
theorem dX4_check_72 : decode cX4_check 72 = .ok (.aload_n 0, 1) := by decide +kernel
theorem dX4_check_73 : decode cX4_check 73 = .ok (.getfield 44, 3) := by decide +kernel
theorem dX4_check_76 : decode cX4_check 76 = .ok (.iload_n 2, 1) := by decide +kernel
theorem dX4_check_77 : decode cX4_check 77 = .ok (.iaload, 1) := by decide +kernel
theorem dX4_check_78 : decode cX4_check 78 = .ok (.iadd, 1) := by decide +kernel
theorem dX4_check_79 : decode cX4_check 79 = .ok (.if_icmp .ge 41, 3) := by decide +kernel
theorem dX4_check_82 : decode cX4_check 82 = .ok (.aload_n 0, 1) := by decide +kernel
theorem dX4_check_83 : decode cX4_check 83 = .ok (.getfield 83, 3) := by decide +kernel
theorem dX4_check_86 : decode cX4_check 86 = .ok (.bipush 8, 2) := by decide +kernel
theorem dX4_check_88 : decode cX4_check 88 = .ok (.aload_n 0, 1) := by decide +kernel
theorem dX4_check_89 : decode cX4_check 89 = .ok (.getfield 53, 3) := by decide +kernel
theorem dX4_check_92 : decode cX4_check 92 = .ok (.iload_n 3, 1) := by decide +kernel
theorem dX4_check_93 : decode cX4_check 93 = .ok (.iaload, 1) := by decide +kernel
theorem dX4_check_94 : decode cX4_check 94 = .ok (.imul, 1) := by decide +kernel
theorem dX4_check_95 : decode cX4_check 95 = .ok (.aload_n 0, 1) := by decide +kernel
theorem dX4_check_96 : decode cX4_check 96 = .ok (.getfield 56, 3) := by decide +kernel
theorem dX4_check_99 : decode cX4_check 99 = .ok (.iload_n 3, 1) := by decide +kernel
theorem dX4_check_100 : decode cX4_check 100 = .ok (.iaload, 1) := by decide +kernel
theorem dX4_check_101 : decode cX4_check 101 = .ok (.iadd, 1) := by decide +kernel
theorem dX4_check_102 : decode cX4_check 102 = .ok (.iaload, 1) := by decide +kernel
theorem dX4_check_103 : decode cX4_check 103 = .ok (.aload_n 0, 1) := by decide +kernel
theorem dX4_check_104 : decode cX4_check 104 = .ok (.getfield 59, 3) := by decide +kernel
theorem dX4_check_107 : decode cX4_check 107 = .ok (.iload_n 3, 1) := by decide +kernel
theorem dX4_check_108 : decode cX4_check 108 = .ok (.iaload, 1) := by decide +kernel
theorem dX4_check_109 : decode cX4_check 109 = .ok (.if_icmp .eq 5, 3) := by decide +kernel
theorem dX4_check_112 : decode cX4_check 112 = .ok (.iload_n 2, 1) := by decide +kernel
theorem dX4_check_113 : decode cX4_check 113 = .ok (.ireturn, 1) := by decide +kernel
theorem dX4_check_114 : decode cX4_check 114 = .ok (.iinc 3 1, 3) := by decide +kernel
theorem dX4_check_117 : decode cX4_check 117 = .ok (.goto (-50), 3) := by decide +kernel
theorem dX4_check_120 : decode cX4_check 120 = .ok (.bipush 8, 2) := by decide +kernel
theorem dX4_check_122 : decode cX4_check 122 = .ok (.iload_n 2, 1) := by decide +kernel
theorem dX4_check_123 : decode cX4_check 123 = .ok (.imul, 1) := by decide +kernel
theorem dX4_check_124 : decode cX4_check 124 = .ok (.istore_n 3, 1) := by decide +kernel
theorem dX4_check_125 : decode cX4_check 125 = .ok (.iload_n 3, 1) := by decide +kernel
theorem dX4_check_126 : decode cX4_check 126 = .ok (.bipush 8, 2) := by decide +kernel
theorem dX4_check_128 : decode cX4_check 128 = .ok (.iload_n 2, 1) := by decide +kernel
theorem dX4_check_129 : decode cX4_check 129 = .ok (.imul, 1) := by decide +kernel
theorem dX4_check_130 : decode cX4_check 130 = .ok (.aload_n 0, 1) := by decide +kernel
theorem dX4_check_131 : decode cX4_check 131 = .ok (.getfield 44, 3) := by decide +kernel
theorem dX4_check_134 : decode cX4_check 134 = .ok (.iload_n 2, 1) := by decide +kernel
theorem dX4_check_135 : decode cX4_check 135 = .ok (.iaload, 1) := by decide +kernel
theorem dX4_check_136 : decode cX4_check 136 = .ok (.iadd, 1) := by decide +kernel
theorem dX4_check_137 : decode cX4_check 137 = .ok (.if_icmp .ge 59, 3) := by decide +kernel
theorem dX4_check_140 : decode cX4_check 140 = .ok (.bipush 8, 2) := by decide +kernel
theorem dX4_check_142 : decode cX4_check 142 = .ok (.aload_n 0, 1) := by decide +kernel
theorem dX4_check_143 : decode cX4_check 143 = .ok (.getfield 53, 3) := by decide +kernel
theorem dX4_check_146 : decode cX4_check 146 = .ok (.iload_n 3, 1) := by decide +kernel
theorem dX4_check_147 : decode cX4_check 147 = .ok (.iaload, 1) := by decide +kernel
theorem dX4_check_148 : decode cX4_check 148 = .ok (.imul, 1) := by decide +kernel
theorem dX4_check_149 : decode cX4_check 149 = .ok (.aload_n 0, 1) := by decide +kernel
theorem dX4_check_150 : decode cX4_check 150 = .ok (.getfield 56, 3) := by decide +kernel
theorem dX4_check_153 : decode cX4_check 153 = .ok (.iload_n 3, 1) := by decide +kernel
theorem dX4_check_154 : decode cX4_check 154 = .ok (.iaload, 1) := by decide +kernel
theorem dX4_check_155 : decode cX4_check 155 = .ok (.iadd, 1) := by decide +kernel
theorem dX4_check_156 : decode cX4_check 156 = .ok (.istore 4, 2) := by decide +kernel
theorem dX4_check_158 : decode cX4_check 158 = .ok (.aload_n 0, 1) := by decide +kernel
theorem dX4_check_159 : decode cX4_check 159 = .ok (.getfield 83, 3) := by decide +kernel
theorem dX4_check_162 : decode cX4_check 162 = .ok (.iload 4, 2) := by decide +kernel
theorem dX4_check_164 : decode cX4_check 164 = .ok (.aload_n 0, 1) := by decide +kernel
theorem dX4_check_165 : decode cX4_check 165 = .ok (.getfield 65, 3) := by decide +kernel
theorem dX4_check_168 : decode cX4_check 168 = .ok (.iload_n 3, 1) := by decide +kernel
theorem dX4_check_169 : decode cX4_check 169 = .ok (.baload, 1) := by decide +kernel
theorem dX4_check_170 : decode cX4_check 170 = .ok (.ifCond .eq 12, 3) := by decide +kernel
theorem dX4_check_173 : decode cX4_check 173 = .ok (.aload_n 0, 1) := by decide +kernel
theorem dX4_check_174 : decode cX4_check 174 = .ok (.getfield 68, 3) := by decide +kernel
theorem dX4_check_177 : decode cX4_check 177 = .ok (.iload_n 3, 1) := by decide +kernel
theorem dX4_check_178 : decode cX4_check 178 = .ok (.iaload, 1) := by decide +kernel
theorem dX4_check_179 : decode cX4_check 179 = .ok (.goto 10, 3) := by decide +kernel
theorem dX4_check_182 : decode cX4_check 182 = .ok (.aload_n 0, 1) := by decide +kernel
theorem dX4_check_183 : decode cX4_check 183 = .ok (.getfield 83, 3) := by decide +kernel
theorem dX4_check_186 : decode cX4_check 186 = .ok (.iload 4, 2) := by decide +kernel
theorem dX4_check_188 : decode cX4_check 188 = .ok (.iaload, 1) := by decide +kernel
theorem dX4_check_189 : decode cX4_check 189 = .ok (.iastore, 1) := by decide +kernel
theorem dX4_check_190 : decode cX4_check 190 = .ok (.iinc 3 1, 3) := by decide +kernel
theorem dX4_check_193 : decode cX4_check 193 = .ok (.goto (-68), 3) := by decide +kernel
theorem dX4_check_196 : decode cX4_check 196 = .ok (.iinc 2 1, 3) := by decide +kernel
theorem dX4_check_199 : decode cX4_check 199 = .ok (.goto (-166), 3) := by decide +kernel
theorem dX4_check_202 : decode cX4_check 202 = .ok (.iinc 1 1, 3) := by decide +kernel
theorem dX4_check_205 : decode cX4_check 205 = .ok (.goto (-182), 3) := by decide +kernel
theorem dX4_check_208 : decode cX4_check 208 = .ok (.bipush (-9), 2) := by decide +kernel
theorem dX4_check_210 : decode cX4_check 210 = .ok (.ireturn, 1) := by decide +kernel
theorem dX4_unlike_0 : decode cX4_unlike 0 = .ok (.iconst 0, 1) := by decide +kernel
theorem dX4_unlike_1 : decode cX4_unlike 1 = .ok (.istore_n 1, 1) := by decide +kernel
theorem dX4_unlike_2 : decode cX4_unlike 2 = .ok (.iload_n 1, 1) := by decide +kernel
theorem dX4_unlike_3 : decode cX4_unlike 3 = .ok (.aload_n 0, 1) := by decide +kernel
theorem dX4_unlike_4 : decode cX4_unlike 4 = .ok (.getfield 92, 3) := by decide +kernel
theorem dX4_unlike_7 : decode cX4_unlike 7 = .ok (.if_icmp .ge 128, 3) := by decide +kernel
theorem dX4_unlike_10 : decode cX4_unlike 10 = .ok (.aload_n 0, 1) := by decide +kernel
theorem dX4_unlike_11 : decode cX4_unlike 11 = .ok (.iload_n 1, 1) := by decide +kernel
theorem dX4_unlike_12 : decode cX4_unlike 12 = .ok (.invokevirtual 124, 3) := by decide +kernel
theorem dX4_unlike_15 : decode cX4_unlike 15 = .ok (.istore_n 2, 1) := by decide +kernel
theorem dX4_unlike_16 : decode cX4_unlike 16 = .ok (.iconst 0, 1) := by decide +kernel
theorem dX4_unlike_17 : decode cX4_unlike 17 = .ok (.istore_n 3, 1) := by decide +kernel
theorem dX4_unlike_18 : decode cX4_unlike 18 = .ok (.iload_n 3, 1) := by decide +kernel
theorem dX4_unlike_19 : decode cX4_unlike 19 = .ok (.aload_n 0, 1) := by decide +kernel
theorem dX4_unlike_20 : decode cX4_unlike 20 = .ok (.getfield 19, 3) := by decide +kernel
theorem dX4_unlike_23 : decode cX4_unlike 23 = .ok (.iload_n 1, 1) := by decide +kernel
theorem dX4_unlike_24 : decode cX4_unlike 24 = .ok (.iaload, 1) := by decide +kernel
theorem dX4_unlike_25 : decode cX4_unlike 25 = .ok (.if_icmp .ge 104, 3) := by decide +kernel
theorem dX4_unlike_28 : decode cX4_unlike 28 = .ok (.iload_n 2, 1) := by decide +kernel
theorem dX4_unlike_29 : decode cX4_unlike 29 = .ok (.bipush (-9), 2) := by decide +kernel
theorem dX4_unlike_31 : decode cX4_unlike 31 = .ok (.if_icmp .eq 98, 3) := by decide +kernel
theorem dX4_unlike_34 : decode cX4_unlike 34 = .ok (.iconst 0, 1) := by decide +kernel
theorem dX4_unlike_35 : decode cX4_unlike 35 = .ok (.istore 4, 2) := by decide +kernel
theorem dX4_unlike_37 : decode cX4_unlike 37 = .ok (.iload 4, 2) := by decide +kernel
theorem dX4_unlike_39 : decode cX4_unlike 39 = .ok (.bipush 8, 2) := by decide +kernel
theorem dX4_unlike_41 : decode cX4_unlike 41 = .ok (.if_icmp .ge 82, 3) := by decide +kernel
theorem dX4_unlike_44 : decode cX4_unlike 44 = .ok (.aload_n 0, 1) := by decide +kernel
theorem dX4_unlike_45 : decode cX4_unlike 45 = .ok (.iload_n 1, 1) := by decide +kernel
theorem dX4_unlike_46 : decode cX4_unlike 46 = .ok (.iload_n 3, 1) := by decide +kernel
theorem dX4_unlike_47 : decode cX4_unlike 47 = .ok (.invokevirtual 96, 3) := by decide +kernel
theorem dX4_unlike_50 : decode cX4_unlike 50 = .ok (.ifCond .eq 73, 3) := by decide +kernel
theorem dX4_unlike_53 : decode cX4_unlike 53 = .ok (.bipush 8, 2) := by decide +kernel
theorem dX4_unlike_55 : decode cX4_unlike 55 = .ok (.bipush 6, 2) := by decide +kernel
theorem dX4_unlike_57 : decode cX4_unlike 57 = .ok (.iload_n 1, 1) := by decide +kernel
theorem dX4_unlike_58 : decode cX4_unlike 58 = .ok (.imul, 1) := by decide +kernel
theorem dX4_unlike_59 : decode cX4_unlike 59 = .ok (.iload_n 3, 1) := by decide +kernel
theorem dX4_unlike_60 : decode cX4_unlike 60 = .ok (.iadd, 1) := by decide +kernel
theorem dX4_unlike_61 : decode cX4_unlike 61 = .ok (.imul, 1) := by decide +kernel
theorem dX4_unlike_62 : decode cX4_unlike 62 = .ok (.iload 4, 2) := by decide +kernel
theorem dX4_unlike_64 : decode cX4_unlike 64 = .ok (.iadd, 1) := by decide +kernel
theorem dX4_unlike_65 : decode cX4_unlike 65 = .ok (.istore 5, 2) := by decide +kernel
theorem dX4_unlike_67 : decode cX4_unlike 67 = .ok (.bipush 8, 2) := by decide +kernel
theorem dX4_unlike_69 : decode cX4_unlike 69 = .ok (.bipush 6, 2) := by decide +kernel
theorem dX4_unlike_71 : decode cX4_unlike 71 = .ok (.iload_n 1, 1) := by decide +kernel
theorem dX4_unlike_72 : decode cX4_unlike 72 = .ok (.imul, 1) := by decide +kernel
theorem dX4_unlike_73 : decode cX4_unlike 73 = .ok (.iload_n 2, 1) := by decide +kernel
theorem dX4_unlike_74 : decode cX4_unlike 74 = .ok (.iadd, 1) := by decide +kernel
theorem dX4_unlike_75 : decode cX4_unlike 75 = .ok (.imul, 1) := by decide +kernel
theorem dX4_unlike_76 : decode cX4_unlike 76 = .ok (.iload 4, 2) := by decide +kernel
theorem dX4_unlike_78 : decode cX4_unlike 78 = .ok (.iadd, 1) := by decide +kernel
theorem dX4_unlike_79 : decode cX4_unlike 79 = .ok (.istore 6, 2) := by decide +kernel
theorem dX4_unlike_81 : decode cX4_unlike 81 = .ok (.aload_n 0, 1) := by decide +kernel
theorem dX4_unlike_82 : decode cX4_unlike 82 = .ok (.getfield 26, 3) := by decide +kernel
theorem dX4_unlike_85 : decode cX4_unlike 85 = .ok (.iload 5, 2) := by decide +kernel
theorem dX4_unlike_87 : decode cX4_unlike 87 = .ok (.iaload, 1) := by decide +kernel
theorem dX4_unlike_88 : decode cX4_unlike 88 = .ok (.aload_n 0, 1) := by decide +kernel
theorem dX4_unlike_89 : decode cX4_unlike 89 = .ok (.getfield 26, 3) := by decide +kernel
theorem dX4_unlike_92 : decode cX4_unlike 92 = .ok (.iload 6, 2) := by decide +kernel
theorem dX4_unlike_94 : decode cX4_unlike 94 = .ok (.iaload, 1) := by decide +kernel
theorem dX4_unlike_95 : decode cX4_unlike 95 = .ok (.if_icmp .ne 20, 3) := by decide +kernel
theorem dX4_unlike_98 : decode cX4_unlike 98 = .ok (.aload_n 0, 1) := by decide +kernel
theorem dX4_unlike_99 : decode cX4_unlike 99 = .ok (.getfield 29, 3) := by decide +kernel
theorem dX4_unlike_102 : decode cX4_unlike 102 = .ok (.iload 5, 2) := by decide +kernel
theorem dX4_unlike_104 : decode cX4_unlike 104 = .ok (.iaload, 1) := by decide +kernel
theorem dX4_unlike_105 : decode cX4_unlike 105 = .ok (.aload_n 0, 1) := by decide +kernel
theorem dX4_unlike_106 : decode cX4_unlike 106 = .ok (.getfield 29, 3) := by decide +kernel
theorem dX4_unlike_109 : decode cX4_unlike 109 = .ok (.iload 6, 2) := by decide +kernel
theorem dX4_unlike_111 : decode cX4_unlike 111 = .ok (.iaload, 1) := by decide +kernel
theorem dX4_unlike_112 : decode cX4_unlike 112 = .ok (.if_icmp .eq 5, 3) := by decide +kernel
theorem dX4_unlike_115 : decode cX4_unlike 115 = .ok (.iload_n 1, 1) := by decide +kernel
theorem dX4_unlike_116 : decode cX4_unlike 116 = .ok (.ireturn, 1) := by decide +kernel
theorem dX4_unlike_117 : decode cX4_unlike 117 = .ok (.iinc 4 1, 3) := by decide +kernel
theorem dX4_unlike_120 : decode cX4_unlike 120 = .ok (.goto (-83), 3) := by decide +kernel
theorem dX4_unlike_123 : decode cX4_unlike 123 = .ok (.iinc 3 1, 3) := by decide +kernel
theorem dX4_unlike_126 : decode cX4_unlike 126 = .ok (.goto (-108), 3) := by decide +kernel
theorem dX4_unlike_129 : decode cX4_unlike 129 = .ok (.iinc 1 1, 3) := by decide +kernel
theorem dX4_unlike_132 : decode cX4_unlike 132 = .ok (.goto (-130), 3) := by decide +kernel
theorem dX4_unlike_135 : decode cX4_unlike 135 = .ok (.bipush (-9), 2) := by decide +kernel
theorem dX4_unlike_137 : decode cX4_unlike 137 = .ok (.ireturn, 1) := by decide +kernel
theorem dX4_inPhase_0 : decode cX4_inPhase 0 = .ok (.iconst 0, 1) := by decide +kernel
theorem dX4_inPhase_1 : decode cX4_inPhase 1 = .ok (.istore_n 2, 1) := by decide +kernel
theorem dX4_inPhase_2 : decode cX4_inPhase 2 = .ok (.iconst 0, 1) := by decide +kernel
theorem dX4_inPhase_3 : decode cX4_inPhase 3 = .ok (.istore_n 3, 1) := by decide +kernel
theorem dX4_inPhase_4 : decode cX4_inPhase 4 = .ok (.iload_n 3, 1) := by decide +kernel
theorem dX4_inPhase_5 : decode cX4_inPhase 5 = .ok (.aload_n 0, 1) := by decide +kernel
theorem dX4_inPhase_6 : decode cX4_inPhase 6 = .ok (.getfield 130, 3) := by decide +kernel
theorem dX4_inPhase_9 : decode cX4_inPhase 9 = .ok (.if_icmp .ge 27, 3) := by decide +kernel
theorem dX4_inPhase_12 : decode cX4_inPhase 12 = .ok (.iload_n 2, 1) := by decide +kernel
theorem dX4_inPhase_13 : decode cX4_inPhase 13 = .ok (.aload_n 0, 1) := by decide +kernel
theorem dX4_inPhase_14 : decode cX4_inPhase 14 = .ok (.getfield 38, 3) := by decide +kernel
theorem dX4_inPhase_17 : decode cX4_inPhase 17 = .ok (.iload_n 3, 1) := by decide +kernel
theorem dX4_inPhase_18 : decode cX4_inPhase 18 = .ok (.iaload, 1) := by decide +kernel
theorem dX4_inPhase_19 : decode cX4_inPhase 19 = .ok (.iload_n 1, 1) := by decide +kernel
theorem dX4_inPhase_20 : decode cX4_inPhase 20 = .ok (.if_icmp .ne 7, 3) := by decide +kernel
theorem dX4_inPhase_23 : decode cX4_inPhase 23 = .ok (.iconst 1, 1) := by decide +kernel
theorem dX4_inPhase_24 : decode cX4_inPhase 24 = .ok (.goto 4, 3) := by decide +kernel
theorem dX4_inPhase_27 : decode cX4_inPhase 27 = .ok (.iconst 0, 1) := by decide +kernel
theorem dX4_inPhase_28 : decode cX4_inPhase 28 = .ok (.iadd, 1) := by decide +kernel
theorem dX4_inPhase_29 : decode cX4_inPhase 29 = .ok (.istore_n 2, 1) := by decide +kernel
theorem dX4_inPhase_30 : decode cX4_inPhase 30 = .ok (.iinc 3 1, 3) := by decide +kernel
theorem dX4_inPhase_33 : decode cX4_inPhase 33 = .ok (.goto (-29), 3) := by decide +kernel
theorem dX4_inPhase_36 : decode cX4_inPhase 36 = .ok (.iload_n 2, 1) := by decide +kernel
theorem dX4_inPhase_37 : decode cX4_inPhase 37 = .ok (.ireturn, 1) := by decide +kernel
theorem dX4_locked_0 : decode cX4_locked 0 = .ok (.iconst 0, 1) := by decide +kernel
theorem dX4_locked_1 : decode cX4_locked 1 = .ok (.istore_n 1, 1) := by decide +kernel
theorem dX4_locked_2 : decode cX4_locked 2 = .ok (.iconst 0, 1) := by decide +kernel
theorem dX4_locked_3 : decode cX4_locked 3 = .ok (.istore_n 2, 1) := by decide +kernel
theorem dX4_locked_4 : decode cX4_locked 4 = .ok (.iload_n 2, 1) := by decide +kernel
theorem dX4_locked_5 : decode cX4_locked 5 = .ok (.bipush 8, 2) := by decide +kernel
theorem dX4_locked_7 : decode cX4_locked 7 = .ok (.aload_n 0, 1) := by decide +kernel
theorem dX4_locked_8 : decode cX4_locked 8 = .ok (.getfield 92, 3) := by decide +kernel
theorem dX4_locked_11 : decode cX4_locked 11 = .ok (.imul, 1) := by decide +kernel
theorem dX4_locked_12 : decode cX4_locked 12 = .ok (.if_icmp .ge 39, 3) := by decide +kernel
theorem dX4_locked_15 : decode cX4_locked 15 = .ok (.iload_n 1, 1) := by decide +kernel
theorem dX4_locked_16 : decode cX4_locked 16 = .ok (.aload_n 0, 1) := by decide +kernel
theorem dX4_locked_17 : decode cX4_locked 17 = .ok (.getfield 32, 3) := by decide +kernel
theorem dX4_locked_20 : decode cX4_locked 20 = .ok (.iload_n 2, 1) := by decide +kernel
theorem dX4_locked_21 : decode cX4_locked 21 = .ok (.iaload, 1) := by decide +kernel
theorem dX4_locked_22 : decode cX4_locked 22 = .ok (.bipush (-9), 2) := by decide +kernel
theorem dX4_locked_24 : decode cX4_locked 24 = .ok (.if_icmp .eq 18, 3) := by decide +kernel
theorem dX4_locked_27 : decode cX4_locked 27 = .ok (.aload_n 0, 1) := by decide +kernel
theorem dX4_locked_28 : decode cX4_locked 28 = .ok (.iload_n 2, 1) := by decide +kernel
theorem dX4_locked_29 : decode cX4_locked 29 = .ok (.bipush 8, 2) := by decide +kernel
theorem dX4_locked_31 : decode cX4_locked 31 = .ok (.idiv, 1) := by decide +kernel
theorem dX4_locked_32 : decode cX4_locked 32 = .ok (.invokevirtual 121, 3) := by decide +kernel
theorem dX4_locked_35 : decode cX4_locked 35 = .ok (.ifCond .ne 7, 3) := by decide +kernel
theorem dX4_locked_38 : decode cX4_locked 38 = .ok (.iconst 1, 1) := by decide +kernel
theorem dX4_locked_39 : decode cX4_locked 39 = .ok (.goto 4, 3) := by decide +kernel
theorem dX4_locked_42 : decode cX4_locked 42 = .ok (.iconst 0, 1) := by decide +kernel
theorem dX4_locked_43 : decode cX4_locked 43 = .ok (.iadd, 1) := by decide +kernel
theorem dX4_locked_44 : decode cX4_locked 44 = .ok (.istore_n 1, 1) := by decide +kernel
theorem dX4_locked_45 : decode cX4_locked 45 = .ok (.iinc 2 1, 3) := by decide +kernel
theorem dX4_locked_48 : decode cX4_locked 48 = .ok (.goto (-44), 3) := by decide +kernel
theorem dX4_locked_51 : decode cX4_locked 51 = .ok (.iload_n 1, 1) := by decide +kernel
theorem dX4_locked_52 : decode cX4_locked 52 = .ok (.ireturn, 1) := by decide +kernel
theorem dX4_count_0 : decode cX4_count 0 = .ok (.iconst 0, 1) := by decide +kernel
theorem dX4_count_1 : decode cX4_count 1 = .ok (.istore_n 2, 1) := by decide +kernel
theorem dX4_count_2 : decode cX4_count 2 = .ok (.iload_n 1, 1) := by decide +kernel
theorem dX4_count_3 : decode cX4_count 3 = .ok (.tableswitch 220 0 9 #[53, 58, 63, 68, 101, 106, 113, 120, 125, 186], 53) := by decide +kernel
theorem dX4_count_56 : decode cX4_count 56 = .ok (.aload_n 0, 1) := by decide +kernel
theorem dX4_count_57 : decode cX4_count 57 = .ok (.getfield 92, 3) := by decide +kernel
theorem dX4_count_60 : decode cX4_count 60 = .ok (.ireturn, 1) := by decide +kernel
theorem dX4_count_61 : decode cX4_count 61 = .ok (.aload_n 0, 1) := by decide +kernel
theorem dX4_count_62 : decode cX4_count 62 = .ok (.getfield 130, 3) := by decide +kernel
theorem dX4_count_65 : decode cX4_count 65 = .ok (.ireturn, 1) := by decide +kernel
theorem dX4_count_66 : decode cX4_count 66 = .ok (.aload_n 0, 1) := by decide +kernel
theorem dX4_count_67 : decode cX4_count 67 = .ok (.getfield 221, 3) := by decide +kernel
theorem dX4_count_70 : decode cX4_count 70 = .ok (.ireturn, 1) := by decide +kernel
theorem dX4_count_71 : decode cX4_count 71 = .ok (.iconst 0, 1) := by decide +kernel
theorem dX4_count_72 : decode cX4_count 72 = .ok (.istore_n 3, 1) := by decide +kernel
theorem dX4_count_73 : decode cX4_count 73 = .ok (.iload_n 3, 1) := by decide +kernel
theorem dX4_count_74 : decode cX4_count 74 = .ok (.bipush 6, 2) := by decide +kernel
theorem dX4_count_76 : decode cX4_count 76 = .ok (.if_icmp .ge 26, 3) := by decide +kernel
theorem dX4_count_79 : decode cX4_count 79 = .ok (.iload_n 2, 1) := by decide +kernel
theorem dX4_count_80 : decode cX4_count 80 = .ok (.aload_n 0, 1) := by decide +kernel
theorem dX4_count_81 : decode cX4_count 81 = .ok (.getfield 13, 3) := by decide +kernel
theorem dX4_count_84 : decode cX4_count 84 = .ok (.iload_n 3, 1) := by decide +kernel
theorem dX4_count_85 : decode cX4_count 85 = .ok (.baload, 1) := by decide +kernel
theorem dX4_count_86 : decode cX4_count 86 = .ok (.ifCond .eq 7, 3) := by decide +kernel
theorem dX4_count_89 : decode cX4_count 89 = .ok (.iconst 1, 1) := by decide +kernel
theorem dX4_count_90 : decode cX4_count 90 = .ok (.goto 4, 3) := by decide +kernel
theorem dX4_count_93 : decode cX4_count 93 = .ok (.iconst 0, 1) := by decide +kernel
theorem dX4_count_94 : decode cX4_count 94 = .ok (.iadd, 1) := by decide +kernel
theorem dX4_count_95 : decode cX4_count 95 = .ok (.istore_n 2, 1) := by decide +kernel
theorem dX4_count_96 : decode cX4_count 96 = .ok (.iinc 3 1, 3) := by decide +kernel
theorem dX4_count_99 : decode cX4_count 99 = .ok (.goto (-26), 3) := by decide +kernel
theorem dX4_count_102 : decode cX4_count 102 = .ok (.iload_n 2, 1) := by decide +kernel
theorem dX4_count_103 : decode cX4_count 103 = .ok (.ireturn, 1) := by decide +kernel
theorem dX4_count_104 : decode cX4_count 104 = .ok (.aload_n 0, 1) := by decide +kernel
theorem dX4_count_105 : decode cX4_count 105 = .ok (.invokevirtual 112, 3) := by decide +kernel
theorem dX4_count_108 : decode cX4_count 108 = .ok (.ireturn, 1) := by decide +kernel
theorem dX4_count_109 : decode cX4_count 109 = .ok (.aload_n 0, 1) := by decide +kernel
theorem dX4_count_110 : decode cX4_count 110 = .ok (.bipush 7, 2) := by decide +kernel
theorem dX4_count_112 : decode cX4_count 112 = .ok (.invokevirtual 234, 3) := by decide +kernel
theorem dX4_count_115 : decode cX4_count 115 = .ok (.ireturn, 1) := by decide +kernel
theorem dX4_count_116 : decode cX4_count 116 = .ok (.aload_n 0, 1) := by decide +kernel
theorem dX4_count_117 : decode cX4_count 117 = .ok (.bipush 8, 2) := by decide +kernel
theorem dX4_count_119 : decode cX4_count 119 = .ok (.invokevirtual 234, 3) := by decide +kernel
theorem dX4_count_122 : decode cX4_count 122 = .ok (.ireturn, 1) := by decide +kernel
theorem dX4_count_123 : decode cX4_count 123 = .ok (.aload_n 0, 1) := by decide +kernel
theorem dX4_count_124 : decode cX4_count 124 = .ok (.invokevirtual 237, 3) := by decide +kernel
theorem dX4_count_127 : decode cX4_count 127 = .ok (.ireturn, 1) := by decide +kernel
theorem dX4_count_128 : decode cX4_count 128 = .ok (.iconst 0, 1) := by decide +kernel
theorem dX4_count_129 : decode cX4_count 129 = .ok (.istore_n 3, 1) := by decide +kernel
theorem dX4_count_130 : decode cX4_count 130 = .ok (.iload_n 3, 1) := by decide +kernel
theorem dX4_count_131 : decode cX4_count 131 = .ok (.aload_n 0, 1) := by decide +kernel
theorem dX4_count_132 : decode cX4_count 132 = .ok (.getfield 170, 3) := by decide +kernel
theorem dX4_count_135 : decode cX4_count 135 = .ok (.if_icmp .ge 52, 3) := by decide +kernel
theorem dX4_count_138 : decode cX4_count 138 = .ok (.iload_n 2, 1) := by decide +kernel
theorem dX4_count_139 : decode cX4_count 139 = .ok (.aload_n 0, 1) := by decide +kernel
theorem dX4_count_140 : decode cX4_count 140 = .ok (.getfield 74, 3) := by decide +kernel
theorem dX4_count_143 : decode cX4_count 143 = .ok (.iload_n 3, 1) := by decide +kernel
theorem dX4_count_144 : decode cX4_count 144 = .ok (.iaload, 1) := by decide +kernel
theorem dX4_count_145 : decode cX4_count 145 = .ok (.bipush (-9), 2) := by decide +kernel
theorem dX4_count_147 : decode cX4_count 147 = .ok (.if_icmp .eq 31, 3) := by decide +kernel
theorem dX4_count_150 : decode cX4_count 150 = .ok (.aload_n 0, 1) := by decide +kernel
theorem dX4_count_151 : decode cX4_count 151 = .ok (.aload_n 0, 1) := by decide +kernel
theorem dX4_count_152 : decode cX4_count 152 = .ok (.getfield 53, 3) := by decide +kernel
theorem dX4_count_155 : decode cX4_count 155 = .ok (.aload_n 0, 1) := by decide +kernel
theorem dX4_count_156 : decode cX4_count 156 = .ok (.getfield 74, 3) := by decide +kernel
theorem dX4_count_159 : decode cX4_count 159 = .ok (.iload_n 3, 1) := by decide +kernel
theorem dX4_count_160 : decode cX4_count 160 = .ok (.iaload, 1) := by decide +kernel
theorem dX4_count_161 : decode cX4_count 161 = .ok (.iaload, 1) := by decide +kernel
theorem dX4_count_162 : decode cX4_count 162 = .ok (.aload_n 0, 1) := by decide +kernel
theorem dX4_count_163 : decode cX4_count 163 = .ok (.getfield 77, 3) := by decide +kernel
theorem dX4_count_166 : decode cX4_count 166 = .ok (.iload_n 3, 1) := by decide +kernel
theorem dX4_count_167 : decode cX4_count 167 = .ok (.iaload, 1) := by decide +kernel
theorem dX4_count_168 : decode cX4_count 168 = .ok (.invokevirtual 96, 3) := by decide +kernel
theorem dX4_count_171 : decode cX4_count 171 = .ok (.ifCond .eq 7, 3) := by decide +kernel
theorem dX4_count_174 : decode cX4_count 174 = .ok (.iconst 1, 1) := by decide +kernel
theorem dX4_count_175 : decode cX4_count 175 = .ok (.goto 4, 3) := by decide +kernel
theorem dX4_count_178 : decode cX4_count 178 = .ok (.iconst 0, 1) := by decide +kernel
theorem dX4_count_179 : decode cX4_count 179 = .ok (.iadd, 1) := by decide +kernel
theorem dX4_count_180 : decode cX4_count 180 = .ok (.istore_n 2, 1) := by decide +kernel
theorem dX4_count_181 : decode cX4_count 181 = .ok (.iinc 3 1, 3) := by decide +kernel
theorem dX4_count_184 : decode cX4_count 184 = .ok (.goto (-54), 3) := by decide +kernel
theorem dX4_count_187 : decode cX4_count 187 = .ok (.iload_n 2, 1) := by decide +kernel
theorem dX4_count_188 : decode cX4_count 188 = .ok (.ireturn, 1) := by decide +kernel
theorem dX4_count_189 : decode cX4_count 189 = .ok (.iconst 0, 1) := by decide +kernel
theorem dX4_count_190 : decode cX4_count 190 = .ok (.istore_n 3, 1) := by decide +kernel
theorem dX4_count_191 : decode cX4_count 191 = .ok (.iload_n 3, 1) := by decide +kernel
theorem dX4_count_192 : decode cX4_count 192 = .ok (.aload_n 0, 1) := by decide +kernel
theorem dX4_count_193 : decode cX4_count 193 = .ok (.getfield 92, 3) := by decide +kernel
theorem dX4_count_196 : decode cX4_count 196 = .ok (.if_icmp .ge 25, 3) := by decide +kernel
theorem dX4_count_199 : decode cX4_count 199 = .ok (.iload_n 2, 1) := by decide +kernel
theorem dX4_count_200 : decode cX4_count 200 = .ok (.aload_n 0, 1) := by decide +kernel
theorem dX4_count_201 : decode cX4_count 201 = .ok (.iload_n 3, 1) := by decide +kernel
theorem dX4_count_202 : decode cX4_count 202 = .ok (.invokevirtual 121, 3) := by decide +kernel
theorem dX4_count_205 : decode cX4_count 205 = .ok (.ifCond .eq 7, 3) := by decide +kernel
theorem dX4_count_208 : decode cX4_count 208 = .ok (.iconst 1, 1) := by decide +kernel
theorem dX4_count_209 : decode cX4_count 209 = .ok (.goto 4, 3) := by decide +kernel
theorem dX4_count_212 : decode cX4_count 212 = .ok (.iconst 0, 1) := by decide +kernel
theorem dX4_count_213 : decode cX4_count 213 = .ok (.iadd, 1) := by decide +kernel
theorem dX4_count_214 : decode cX4_count 214 = .ok (.istore_n 2, 1) := by decide +kernel
theorem dX4_count_215 : decode cX4_count 215 = .ok (.iinc 3 1, 3) := by decide +kernel
theorem dX4_count_218 : decode cX4_count 218 = .ok (.goto (-27), 3) := by decide +kernel
theorem dX4_count_221 : decode cX4_count 221 = .ok (.iload_n 2, 1) := by decide +kernel
theorem dX4_count_222 : decode cX4_count 222 = .ok (.ireturn, 1) := by decide +kernel
theorem dX4_count_223 : decode cX4_count 223 = .ok (.bipush (-2), 2) := by decide +kernel
theorem dX4_count_225 : decode cX4_count 225 = .ok (.ireturn, 1) := by decide +kernel
theorem dJ6_bitCount_0f7a4_0 : decode cJ6_bitCount_0f7a4 0 = .ok (.iload_n 0, 1) := by decide +kernel
theorem dJ6_bitCount_0f7a4_1 : decode cJ6_bitCount_0f7a4 1 = .ok (.iload_n 0, 1) := by decide +kernel
theorem dJ6_bitCount_0f7a4_2 : decode cJ6_bitCount_0f7a4 2 = .ok (.iconst 1, 1) := by decide +kernel
theorem dJ6_bitCount_0f7a4_3 : decode cJ6_bitCount_0f7a4 3 = .ok (.iushr, 1) := by decide +kernel
theorem dJ6_bitCount_0f7a4_4 : decode cJ6_bitCount_0f7a4 4 = .ok (.ldc_w 265, 3) := by decide +kernel
theorem dJ6_bitCount_0f7a4_7 : decode cJ6_bitCount_0f7a4 7 = .ok (.iand, 1) := by decide +kernel
theorem dJ6_bitCount_0f7a4_8 : decode cJ6_bitCount_0f7a4 8 = .ok (.isub, 1) := by decide +kernel
theorem dJ6_bitCount_0f7a4_9 : decode cJ6_bitCount_0f7a4 9 = .ok (.istore_n 0, 1) := by decide +kernel
theorem dJ6_bitCount_0f7a4_10 : decode cJ6_bitCount_0f7a4 10 = .ok (.iload_n 0, 1) := by decide +kernel
theorem dJ6_bitCount_0f7a4_11 : decode cJ6_bitCount_0f7a4 11 = .ok (.ldc_w 266, 3) := by decide +kernel
theorem dJ6_bitCount_0f7a4_14 : decode cJ6_bitCount_0f7a4 14 = .ok (.iand, 1) := by decide +kernel
theorem dJ6_bitCount_0f7a4_15 : decode cJ6_bitCount_0f7a4 15 = .ok (.iload_n 0, 1) := by decide +kernel
theorem dJ6_bitCount_0f7a4_16 : decode cJ6_bitCount_0f7a4 16 = .ok (.iconst 2, 1) := by decide +kernel
theorem dJ6_bitCount_0f7a4_17 : decode cJ6_bitCount_0f7a4 17 = .ok (.iushr, 1) := by decide +kernel
theorem dJ6_bitCount_0f7a4_18 : decode cJ6_bitCount_0f7a4 18 = .ok (.ldc_w 266, 3) := by decide +kernel
theorem dJ6_bitCount_0f7a4_21 : decode cJ6_bitCount_0f7a4 21 = .ok (.iand, 1) := by decide +kernel
theorem dJ6_bitCount_0f7a4_22 : decode cJ6_bitCount_0f7a4 22 = .ok (.iadd, 1) := by decide +kernel
theorem dJ6_bitCount_0f7a4_23 : decode cJ6_bitCount_0f7a4 23 = .ok (.istore_n 0, 1) := by decide +kernel
theorem dJ6_bitCount_0f7a4_24 : decode cJ6_bitCount_0f7a4 24 = .ok (.iload_n 0, 1) := by decide +kernel
theorem dJ6_bitCount_0f7a4_25 : decode cJ6_bitCount_0f7a4 25 = .ok (.iload_n 0, 1) := by decide +kernel
theorem dJ6_bitCount_0f7a4_26 : decode cJ6_bitCount_0f7a4 26 = .ok (.iconst 4, 1) := by decide +kernel
theorem dJ6_bitCount_0f7a4_27 : decode cJ6_bitCount_0f7a4 27 = .ok (.iushr, 1) := by decide +kernel
theorem dJ6_bitCount_0f7a4_28 : decode cJ6_bitCount_0f7a4 28 = .ok (.iadd, 1) := by decide +kernel
theorem dJ6_bitCount_0f7a4_29 : decode cJ6_bitCount_0f7a4 29 = .ok (.ldc_w 267, 3) := by decide +kernel
theorem dJ6_bitCount_0f7a4_32 : decode cJ6_bitCount_0f7a4 32 = .ok (.iand, 1) := by decide +kernel
theorem dJ6_bitCount_0f7a4_33 : decode cJ6_bitCount_0f7a4 33 = .ok (.istore_n 0, 1) := by decide +kernel
theorem dJ6_bitCount_0f7a4_34 : decode cJ6_bitCount_0f7a4 34 = .ok (.iload_n 0, 1) := by decide +kernel
theorem dJ6_bitCount_0f7a4_35 : decode cJ6_bitCount_0f7a4 35 = .ok (.iload_n 0, 1) := by decide +kernel
theorem dJ6_bitCount_0f7a4_36 : decode cJ6_bitCount_0f7a4 36 = .ok (.bipush 8, 2) := by decide +kernel
theorem dJ6_bitCount_0f7a4_38 : decode cJ6_bitCount_0f7a4 38 = .ok (.iushr, 1) := by decide +kernel
theorem dJ6_bitCount_0f7a4_39 : decode cJ6_bitCount_0f7a4 39 = .ok (.iadd, 1) := by decide +kernel
theorem dJ6_bitCount_0f7a4_40 : decode cJ6_bitCount_0f7a4 40 = .ok (.istore_n 0, 1) := by decide +kernel
theorem dJ6_bitCount_0f7a4_41 : decode cJ6_bitCount_0f7a4 41 = .ok (.iload_n 0, 1) := by decide +kernel
theorem dJ6_bitCount_0f7a4_42 : decode cJ6_bitCount_0f7a4 42 = .ok (.iload_n 0, 1) := by decide +kernel
theorem dJ6_bitCount_0f7a4_43 : decode cJ6_bitCount_0f7a4 43 = .ok (.bipush 16, 2) := by decide +kernel
theorem dJ6_bitCount_0f7a4_45 : decode cJ6_bitCount_0f7a4 45 = .ok (.iushr, 1) := by decide +kernel
theorem dJ6_bitCount_0f7a4_46 : decode cJ6_bitCount_0f7a4 46 = .ok (.iadd, 1) := by decide +kernel
theorem dJ6_bitCount_0f7a4_47 : decode cJ6_bitCount_0f7a4 47 = .ok (.istore_n 0, 1) := by decide +kernel
theorem dJ6_bitCount_0f7a4_48 : decode cJ6_bitCount_0f7a4 48 = .ok (.iload_n 0, 1) := by decide +kernel
theorem dJ6_bitCount_0f7a4_49 : decode cJ6_bitCount_0f7a4 49 = .ok (.bipush 63, 2) := by decide +kernel
theorem dJ6_bitCount_0f7a4_51 : decode cJ6_bitCount_0f7a4 51 = .ok (.iand, 1) := by decide +kernel
theorem dJ6_bitCount_0f7a4_52 : decode cJ6_bitCount_0f7a4 52 = .ok (.ireturn, 1) := by decide +kernel
theorem dJ9_max_7cf53_0 : decode cJ9_max_7cf53 0 = .ok (.iload_n 0, 1) := by decide +kernel
theorem dJ9_max_7cf53_1 : decode cJ9_max_7cf53 1 = .ok (.iload_n 1, 1) := by decide +kernel
theorem dJ9_max_7cf53_2 : decode cJ9_max_7cf53 2 = .ok (.if_icmp .lt 7, 3) := by decide +kernel
theorem dJ9_max_7cf53_5 : decode cJ9_max_7cf53 5 = .ok (.iload_n 0, 1) := by decide +kernel
theorem dJ9_max_7cf53_6 : decode cJ9_max_7cf53 6 = .ok (.goto 4, 3) := by decide +kernel
theorem dJ9_max_7cf53_9 : decode cJ9_max_7cf53 9 = .ok (.iload_n 1, 1) := by decide +kernel
theorem dJ9_max_7cf53_10 : decode cJ9_max_7cf53 10 = .ok (.ireturn, 1) := by decide +kernel
theorem dJ9_min_7cf53_0 : decode cJ9_min_7cf53 0 = .ok (.iload_n 0, 1) := by decide +kernel
theorem dJ9_min_7cf53_1 : decode cJ9_min_7cf53 1 = .ok (.iload_n 1, 1) := by decide +kernel
theorem dJ9_min_7cf53_2 : decode cJ9_min_7cf53 2 = .ok (.if_icmp .gt 7, 3) := by decide +kernel
theorem dJ9_min_7cf53_5 : decode cJ9_min_7cf53 5 = .ok (.iload_n 0, 1) := by decide +kernel
theorem dJ9_min_7cf53_6 : decode cJ9_min_7cf53 6 = .ok (.goto 4, 3) := by decide +kernel
theorem dJ9_min_7cf53_9 : decode cJ9_min_7cf53 9 = .ok (.iload_n 1, 1) := by decide +kernel
theorem dJ9_min_7cf53_10 : decode cJ9_min_7cf53 10 = .ok (.ireturn, 1) := by decide +kernel
theorem dJxa1e45_init_da8c8_0 : decode cJxa1e45_init_da8c8 0 = .ok (.aload_n 0, 1) := by decide +kernel
theorem dJxa1e45_init_da8c8_1 : decode cJxa1e45_init_da8c8 1 = .ok (.invokespecial 1, 3) := by decide +kernel
theorem dJxa1e45_init_da8c8_4 : decode cJxa1e45_init_da8c8 4 = .ok (.return_, 1) := by decide +kernel
theorem dJxc12de_init_da8c8_0 : decode cJxc12de_init_da8c8 0 = .ok (.aload_n 0, 1) := by decide +kernel
theorem dJxc12de_init_da8c8_1 : decode cJxc12de_init_da8c8 1 = .ok (.invokespecial 1, 3) := by decide +kernel
theorem dJxc12de_init_da8c8_4 : decode cJxc12de_init_da8c8 4 = .ok (.aload_n 0, 1) := by decide +kernel
theorem dJxc12de_init_da8c8_5 : decode cJxc12de_init_da8c8 5 = .ok (.iconst 0, 1) := by decide +kernel
theorem dJxc12de_init_da8c8_6 : decode cJxc12de_init_da8c8 6 = .ok (.putfield 7, 3) := by decide +kernel
theorem dJxc12de_init_da8c8_9 : decode cJxc12de_init_da8c8 9 = .ok (.return_, 1) := by decide +kernel
theorem dJx4a65c_init_da8c8_0 : decode cJx4a65c_init_da8c8 0 = .ok (.aload_n 0, 1) := by decide +kernel
theorem dJx4a65c_init_da8c8_1 : decode cJx4a65c_init_da8c8 1 = .ok (.invokespecial 1, 3) := by decide +kernel
theorem dJx4a65c_init_da8c8_4 : decode cJx4a65c_init_da8c8 4 = .ok (.aload_n 0, 1) := by decide +kernel
theorem dJx4a65c_init_da8c8_5 : decode cJx4a65c_init_da8c8 5 = .ok (.getstatic 39, 3) := by decide +kernel
theorem dJx4a65c_init_da8c8_8 : decode cJx4a65c_init_da8c8 8 = .ok (.putfield 9, 3) := by decide +kernel
theorem dJx4a65c_init_da8c8_11 : decode cJx4a65c_init_da8c8 11 = .ok (.return_, 1) := by decide +kernel
theorem dJx4a65c_grow_92f84_0 : decode cJx4a65c_grow_92f84 0 = .ok (.aload_n 0, 1) := by decide +kernel
theorem dJx4a65c_grow_92f84_1 : decode cJx4a65c_grow_92f84 1 = .ok (.getfield 9, 3) := by decide +kernel
theorem dJx4a65c_grow_92f84_4 : decode cJx4a65c_grow_92f84 4 = .ok (.arraylength, 1) := by decide +kernel
theorem dJx4a65c_grow_92f84_5 : decode cJx4a65c_grow_92f84 5 = .ok (.istore_n 2, 1) := by decide +kernel
theorem dJx4a65c_grow_92f84_6 : decode cJx4a65c_grow_92f84 6 = .ok (.iload_n 2, 1) := by decide +kernel
theorem dJx4a65c_grow_92f84_7 : decode cJx4a65c_grow_92f84 7 = .ok (.ifCond .gt 13, 3) := by decide +kernel
theorem dJx4a65c_grow_92f84_10 : decode cJx4a65c_grow_92f84 10 = .ok (.aload_n 0, 1) := by decide +kernel
theorem dJx4a65c_grow_92f84_11 : decode cJx4a65c_grow_92f84 11 = .ok (.getfield 9, 3) := by decide +kernel
theorem dJx4a65c_grow_92f84_14 : decode cJx4a65c_grow_92f84 14 = .ok (.getstatic 39, 3) := by decide +kernel
theorem dJx4a65c_grow_92f84_17 : decode cJx4a65c_grow_92f84 17 = .ok (.if_acmp .eq 28, 3) := by decide +kernel
theorem dJx4a65c_grow_92f84_20 : decode cJx4a65c_grow_92f84 20 = .ok (.iload_n 2, 1) := by decide +kernel
theorem dJx4a65c_grow_92f84_21 : decode cJx4a65c_grow_92f84 21 = .ok (.iload_n 1, 1) := by decide +kernel
theorem dJx4a65c_grow_92f84_22 : decode cJx4a65c_grow_92f84 22 = .ok (.iload_n 2, 1) := by decide +kernel
theorem dJx4a65c_grow_92f84_23 : decode cJx4a65c_grow_92f84 23 = .ok (.isub, 1) := by decide +kernel
theorem dJx4a65c_grow_92f84_24 : decode cJx4a65c_grow_92f84 24 = .ok (.iload_n 2, 1) := by decide +kernel
theorem dJx4a65c_grow_92f84_25 : decode cJx4a65c_grow_92f84 25 = .ok (.iconst 1, 1) := by decide +kernel
theorem dJx4a65c_grow_92f84_26 : decode cJx4a65c_grow_92f84 26 = .ok (.ishr, 1) := by decide +kernel
theorem dJx4a65c_grow_92f84_27 : decode cJx4a65c_grow_92f84 27 = .ok (.invokestatic 73, 3) := by decide +kernel
theorem dJx4a65c_grow_92f84_30 : decode cJx4a65c_grow_92f84 30 = .ok (.istore_n 3, 1) := by decide +kernel
theorem dJx4a65c_grow_92f84_31 : decode cJx4a65c_grow_92f84 31 = .ok (.aload_n 0, 1) := by decide +kernel
theorem dJx4a65c_grow_92f84_32 : decode cJx4a65c_grow_92f84 32 = .ok (.aload_n 0, 1) := by decide +kernel
theorem dJx4a65c_grow_92f84_33 : decode cJx4a65c_grow_92f84 33 = .ok (.getfield 9, 3) := by decide +kernel
theorem dJx4a65c_grow_92f84_36 : decode cJx4a65c_grow_92f84 36 = .ok (.iload_n 3, 1) := by decide +kernel
theorem dJx4a65c_grow_92f84_37 : decode cJx4a65c_grow_92f84 37 = .ok (.invokestatic 66, 3) := by decide +kernel
theorem dJx4a65c_grow_92f84_40 : decode cJx4a65c_grow_92f84 40 = .ok (.dup_x1, 1) := by decide +kernel
theorem dJx4a65c_grow_92f84_41 : decode cJx4a65c_grow_92f84 41 = .ok (.putfield 9, 3) := by decide +kernel
theorem dJx4a65c_grow_92f84_44 : decode cJx4a65c_grow_92f84 44 = .ok (.areturn, 1) := by decide +kernel
theorem dJx4a65c_grow_92f84_45 : decode cJx4a65c_grow_92f84 45 = .ok (.aload_n 0, 1) := by decide +kernel
theorem dJx4a65c_grow_92f84_46 : decode cJx4a65c_grow_92f84 46 = .ok (.bipush 10, 2) := by decide +kernel
theorem dJx4a65c_grow_92f84_48 : decode cJx4a65c_grow_92f84 48 = .ok (.iload_n 1, 1) := by decide +kernel
theorem dJx4a65c_grow_92f84_49 : decode cJx4a65c_grow_92f84 49 = .ok (.invokestatic 79, 3) := by decide +kernel
theorem dJx4a65c_grow_92f84_52 : decode cJx4a65c_grow_92f84 52 = .ok (.anewarray 7, 3) := by decide +kernel
theorem dJx4a65c_grow_92f84_55 : decode cJx4a65c_grow_92f84 55 = .ok (.dup_x1, 1) := by decide +kernel
theorem dJx4a65c_grow_92f84_56 : decode cJx4a65c_grow_92f84 56 = .ok (.putfield 9, 3) := by decide +kernel
theorem dJx4a65c_grow_92f84_59 : decode cJx4a65c_grow_92f84 59 = .ok (.areturn, 1) := by decide +kernel
theorem dJx4a65c_grow_d5877_0 : decode cJx4a65c_grow_d5877 0 = .ok (.aload_n 0, 1) := by decide +kernel
theorem dJx4a65c_grow_d5877_1 : decode cJx4a65c_grow_d5877 1 = .ok (.aload_n 0, 1) := by decide +kernel
theorem dJx4a65c_grow_d5877_2 : decode cJx4a65c_grow_d5877 2 = .ok (.getfield 48, 3) := by decide +kernel
theorem dJx4a65c_grow_d5877_5 : decode cJx4a65c_grow_d5877 5 = .ok (.iconst 1, 1) := by decide +kernel
theorem dJx4a65c_grow_d5877_6 : decode cJx4a65c_grow_d5877 6 = .ok (.iadd, 1) := by decide +kernel
theorem dJx4a65c_grow_d5877_7 : decode cJx4a65c_grow_d5877 7 = .ok (.invokevirtual 69, 3) := by decide +kernel
theorem dJx4a65c_grow_d5877_10 : decode cJx4a65c_grow_d5877 10 = .ok (.areturn, 1) := by decide +kernel
theorem dJx4a65c_size_8abf5_0 : decode cJx4a65c_size_8abf5 0 = .ok (.aload_n 0, 1) := by decide +kernel
theorem dJx4a65c_size_8abf5_1 : decode cJx4a65c_size_8abf5 1 = .ok (.getfield 48, 3) := by decide +kernel
theorem dJx4a65c_size_8abf5_4 : decode cJx4a65c_size_8abf5 4 = .ok (.ireturn, 1) := by decide +kernel
theorem dJx4a65c_elementData_915e3_0 : decode cJx4a65c_elementData_915e3 0 = .ok (.aload_n 0, 1) := by decide +kernel
theorem dJx4a65c_elementData_915e3_1 : decode cJx4a65c_elementData_915e3 1 = .ok (.getfield 9, 3) := by decide +kernel
theorem dJx4a65c_elementData_915e3_4 : decode cJx4a65c_elementData_915e3 4 = .ok (.iload_n 1, 1) := by decide +kernel
theorem dJx4a65c_elementData_915e3_5 : decode cJx4a65c_elementData_915e3 5 = .ok (.aaload, 1) := by decide +kernel
theorem dJx4a65c_elementData_915e3_6 : decode cJx4a65c_elementData_915e3 6 = .ok (.areturn, 1) := by decide +kernel
theorem dJx4a65c_get_915e3_0 : decode cJx4a65c_get_915e3 0 = .ok (.iload_n 1, 1) := by decide +kernel
theorem dJx4a65c_get_915e3_1 : decode cJx4a65c_get_915e3 1 = .ok (.aload_n 0, 1) := by decide +kernel
theorem dJx4a65c_get_915e3_2 : decode cJx4a65c_get_915e3 2 = .ok (.getfield 48, 3) := by decide +kernel
theorem dJx4a65c_get_915e3_5 : decode cJx4a65c_get_915e3 5 = .ok (.invokestatic 118, 3) := by decide +kernel
theorem dJx4a65c_get_915e3_8 : decode cJx4a65c_get_915e3 8 = .ok (.pop, 1) := by decide +kernel
theorem dJx4a65c_get_915e3_9 : decode cJx4a65c_get_915e3 9 = .ok (.aload_n 0, 1) := by decide +kernel
theorem dJx4a65c_get_915e3_10 : decode cJx4a65c_get_915e3 10 = .ok (.iload_n 1, 1) := by decide +kernel
theorem dJx4a65c_get_915e3_11 : decode cJx4a65c_get_915e3 11 = .ok (.invokevirtual 123, 3) := by decide +kernel
theorem dJx4a65c_get_915e3_14 : decode cJx4a65c_get_915e3 14 = .ok (.areturn, 1) := by decide +kernel
theorem dJx4a65c_add_72be8_0 : decode cJx4a65c_add_72be8 0 = .ok (.iload_n 3, 1) := by decide +kernel
theorem dJx4a65c_add_72be8_1 : decode cJx4a65c_add_72be8 1 = .ok (.aload_n 2, 1) := by decide +kernel
theorem dJx4a65c_add_72be8_2 : decode cJx4a65c_add_72be8 2 = .ok (.arraylength, 1) := by decide +kernel
theorem dJx4a65c_add_72be8_3 : decode cJx4a65c_add_72be8 3 = .ok (.if_icmp .ne 8, 3) := by decide +kernel
theorem dJx4a65c_add_72be8_6 : decode cJx4a65c_add_72be8 6 = .ok (.aload_n 0, 1) := by decide +kernel
theorem dJx4a65c_add_72be8_7 : decode cJx4a65c_add_72be8 7 = .ok (.invokevirtual 129, 3) := by decide +kernel
theorem dJx4a65c_add_72be8_10 : decode cJx4a65c_add_72be8 10 = .ok (.astore_n 2, 1) := by decide +kernel
theorem dJx4a65c_add_72be8_11 : decode cJx4a65c_add_72be8 11 = .ok (.aload_n 2, 1) := by decide +kernel
theorem dJx4a65c_add_72be8_12 : decode cJx4a65c_add_72be8 12 = .ok (.iload_n 3, 1) := by decide +kernel
theorem dJx4a65c_add_72be8_13 : decode cJx4a65c_add_72be8 13 = .ok (.aload_n 1, 1) := by decide +kernel
theorem dJx4a65c_add_72be8_14 : decode cJx4a65c_add_72be8 14 = .ok (.aastore, 1) := by decide +kernel
theorem dJx4a65c_add_72be8_15 : decode cJx4a65c_add_72be8 15 = .ok (.aload_n 0, 1) := by decide +kernel
theorem dJx4a65c_add_72be8_16 : decode cJx4a65c_add_72be8 16 = .ok (.iload_n 3, 1) := by decide +kernel
theorem dJx4a65c_add_72be8_17 : decode cJx4a65c_add_72be8 17 = .ok (.iconst 1, 1) := by decide +kernel
theorem dJx4a65c_add_72be8_18 : decode cJx4a65c_add_72be8 18 = .ok (.iadd, 1) := by decide +kernel
theorem dJx4a65c_add_72be8_19 : decode cJx4a65c_add_72be8 19 = .ok (.putfield 48, 3) := by decide +kernel
theorem dJx4a65c_add_72be8_22 : decode cJx4a65c_add_72be8 22 = .ok (.return_, 1) := by decide +kernel
theorem dJx4a65c_add_9ea2d_0 : decode cJx4a65c_add_9ea2d 0 = .ok (.aload_n 0, 1) := by decide +kernel
theorem dJx4a65c_add_9ea2d_1 : decode cJx4a65c_add_9ea2d 1 = .ok (.dup, 1) := by decide +kernel
theorem dJx4a65c_add_9ea2d_2 : decode cJx4a65c_add_9ea2d 2 = .ok (.getfield 63, 3) := by decide +kernel
theorem dJx4a65c_add_9ea2d_5 : decode cJx4a65c_add_9ea2d 5 = .ok (.iconst 1, 1) := by decide +kernel
theorem dJx4a65c_add_9ea2d_6 : decode cJx4a65c_add_9ea2d 6 = .ok (.iadd, 1) := by decide +kernel
theorem dJx4a65c_add_9ea2d_7 : decode cJx4a65c_add_9ea2d 7 = .ok (.putfield 63, 3) := by decide +kernel
theorem dJx4a65c_add_9ea2d_10 : decode cJx4a65c_add_9ea2d 10 = .ok (.aload_n 0, 1) := by decide +kernel
theorem dJx4a65c_add_9ea2d_11 : decode cJx4a65c_add_9ea2d 11 = .ok (.aload_n 1, 1) := by decide +kernel
theorem dJx4a65c_add_9ea2d_12 : decode cJx4a65c_add_9ea2d 12 = .ok (.aload_n 0, 1) := by decide +kernel
theorem dJx4a65c_add_9ea2d_13 : decode cJx4a65c_add_9ea2d 13 = .ok (.getfield 9, 3) := by decide +kernel
theorem dJx4a65c_add_9ea2d_16 : decode cJx4a65c_add_9ea2d 16 = .ok (.aload_n 0, 1) := by decide +kernel
theorem dJx4a65c_add_9ea2d_17 : decode cJx4a65c_add_9ea2d 17 = .ok (.getfield 48, 3) := by decide +kernel
theorem dJx4a65c_add_9ea2d_20 : decode cJx4a65c_add_9ea2d 20 = .ok (.invokevirtual 131, 3) := by decide +kernel
theorem dJx4a65c_add_9ea2d_23 : decode cJx4a65c_add_9ea2d 23 = .ok (.iconst 1, 1) := by decide +kernel
theorem dJx4a65c_add_9ea2d_24 : decode cJx4a65c_add_9ea2d 24 = .ok (.ireturn, 1) := by decide +kernel
theorem dJ7_copyOf_1904c_0 : decode cJ7_copyOf_1904c 0 = .ok (.aload_n 0, 1) := by decide +kernel
theorem dJ7_copyOf_1904c_1 : decode cJ7_copyOf_1904c 1 = .ok (.iload_n 1, 1) := by decide +kernel
theorem dJ7_copyOf_1904c_2 : decode cJ7_copyOf_1904c 2 = .ok (.aload_n 0, 1) := by decide +kernel
theorem dJ7_copyOf_1904c_3 : decode cJ7_copyOf_1904c 3 = .ok (.invokevirtual 86, 3) := by decide +kernel
theorem dJ7_copyOf_1904c_6 : decode cJ7_copyOf_1904c 6 = .ok (.invokestatic 300, 3) := by decide +kernel
theorem dJ7_copyOf_1904c_9 : decode cJ7_copyOf_1904c 9 = .ok (.areturn, 1) := by decide +kernel
theorem dJ7_copyOf_6403c_0 : decode cJ7_copyOf_6403c 0 = .ok (.aload_n 2, 1) := by decide +kernel
theorem dJ7_copyOf_6403c_1 : decode cJ7_copyOf_6403c 1 = .ok (.ldc 110, 2) := by decide +kernel
theorem dJ7_copyOf_6403c_3 : decode cJ7_copyOf_6403c 3 = .ok (.if_acmp .ne 10, 3) := by decide +kernel
theorem dJ7_copyOf_6403c_6 : decode cJ7_copyOf_6403c 6 = .ok (.iload_n 1, 1) := by decide +kernel
theorem dJ7_copyOf_6403c_7 : decode cJ7_copyOf_6403c 7 = .ok (.anewarray 2, 3) := by decide +kernel
theorem dJ7_copyOf_6403c_10 : decode cJ7_copyOf_6403c 10 = .ok (.goto 14, 3) := by decide +kernel
theorem dJ7_copyOf_6403c_13 : decode cJ7_copyOf_6403c 13 = .ok (.aload_n 2, 1) := by decide +kernel
theorem dJ7_copyOf_6403c_14 : decode cJ7_copyOf_6403c 14 = .ok (.invokevirtual 90, 3) := by decide +kernel
theorem dJ7_copyOf_6403c_17 : decode cJ7_copyOf_6403c 17 = .ok (.iload_n 1, 1) := by decide +kernel
theorem dJ7_copyOf_6403c_18 : decode cJ7_copyOf_6403c 18 = .ok (.invokestatic 95, 3) := by decide +kernel
theorem dJ7_copyOf_6403c_21 : decode cJ7_copyOf_6403c 21 = .ok (.checkcast 110, 3) := by decide +kernel
theorem dJ7_copyOf_6403c_24 : decode cJ7_copyOf_6403c 24 = .ok (.astore_n 3, 1) := by decide +kernel
theorem dJ7_copyOf_6403c_25 : decode cJ7_copyOf_6403c 25 = .ok (.aload_n 0, 1) := by decide +kernel
theorem dJ7_copyOf_6403c_26 : decode cJ7_copyOf_6403c 26 = .ok (.iconst 0, 1) := by decide +kernel
theorem dJ7_copyOf_6403c_27 : decode cJ7_copyOf_6403c 27 = .ok (.aload_n 3, 1) := by decide +kernel
theorem dJ7_copyOf_6403c_28 : decode cJ7_copyOf_6403c 28 = .ok (.iconst 0, 1) := by decide +kernel
theorem dJ7_copyOf_6403c_29 : decode cJ7_copyOf_6403c 29 = .ok (.aload_n 0, 1) := by decide +kernel
theorem dJ7_copyOf_6403c_30 : decode cJ7_copyOf_6403c 30 = .ok (.arraylength, 1) := by decide +kernel
theorem dJ7_copyOf_6403c_31 : decode cJ7_copyOf_6403c 31 = .ok (.iload_n 1, 1) := by decide +kernel
theorem dJ7_copyOf_6403c_32 : decode cJ7_copyOf_6403c 32 = .ok (.invokestatic 304, 3) := by decide +kernel
theorem dJ7_copyOf_6403c_35 : decode cJ7_copyOf_6403c 35 = .ok (.invokestatic 150, 3) := by decide +kernel
theorem dJ7_copyOf_6403c_38 : decode cJ7_copyOf_6403c 38 = .ok (.aload_n 3, 1) := by decide +kernel
theorem dJ7_copyOf_6403c_39 : decode cJ7_copyOf_6403c 39 = .ok (.areturn, 1) := by decide +kernel
theorem dJ15_checkIndex_7cf53_0 : decode cJ15_checkIndex_7cf53 0 = .ok (.iload_n 0, 1) := by decide +kernel
theorem dJ15_checkIndex_7cf53_1 : decode cJ15_checkIndex_7cf53 1 = .ok (.iload_n 1, 1) := by decide +kernel
theorem dJ15_checkIndex_7cf53_2 : decode cJ15_checkIndex_7cf53 2 = .ok (.aconst_null, 1) := by decide +kernel
theorem dJ15_checkIndex_7cf53_3 : decode cJ15_checkIndex_7cf53 3 = .ok (.invokestatic 105, 3) := by decide +kernel
theorem dJ15_checkIndex_7cf53_6 : decode cJ15_checkIndex_7cf53 6 = .ok (.ireturn, 1) := by decide +kernel
theorem dJ8_newLength_cabcc_0 : decode cJ8_newLength_cabcc 0 = .ok (.iload_n 0, 1) := by decide +kernel
theorem dJ8_newLength_cabcc_1 : decode cJ8_newLength_cabcc 1 = .ok (.iload_n 1, 1) := by decide +kernel
theorem dJ8_newLength_cabcc_2 : decode cJ8_newLength_cabcc 2 = .ok (.iload_n 2, 1) := by decide +kernel
theorem dJ8_newLength_cabcc_3 : decode cJ8_newLength_cabcc 3 = .ok (.invokestatic 194, 3) := by decide +kernel
theorem dJ8_newLength_cabcc_6 : decode cJ8_newLength_cabcc 6 = .ok (.iadd, 1) := by decide +kernel
theorem dJ8_newLength_cabcc_7 : decode cJ8_newLength_cabcc 7 = .ok (.istore_n 3, 1) := by decide +kernel
theorem dJ8_newLength_cabcc_8 : decode cJ8_newLength_cabcc 8 = .ok (.iconst 0, 1) := by decide +kernel
theorem dJ8_newLength_cabcc_9 : decode cJ8_newLength_cabcc 9 = .ok (.iload_n 3, 1) := by decide +kernel
theorem dJ8_newLength_cabcc_10 : decode cJ8_newLength_cabcc 10 = .ok (.if_icmp .ge 11, 3) := by decide +kernel
theorem dJ8_newLength_cabcc_13 : decode cJ8_newLength_cabcc 13 = .ok (.iload_n 3, 1) := by decide +kernel
theorem dJ8_newLength_cabcc_14 : decode cJ8_newLength_cabcc 14 = .ok (.ldc 200, 2) := by decide +kernel
theorem dJ8_newLength_cabcc_16 : decode cJ8_newLength_cabcc 16 = .ok (.if_icmp .gt 5, 3) := by decide +kernel
theorem dJ8_newLength_cabcc_19 : decode cJ8_newLength_cabcc 19 = .ok (.iload_n 3, 1) := by decide +kernel
theorem dJ8_newLength_cabcc_20 : decode cJ8_newLength_cabcc 20 = .ok (.ireturn, 1) := by decide +kernel
theorem dJ8_newLength_cabcc_21 : decode cJ8_newLength_cabcc 21 = .ok (.iload_n 0, 1) := by decide +kernel
theorem dJ8_newLength_cabcc_22 : decode cJ8_newLength_cabcc 22 = .ok (.iload_n 1, 1) := by decide +kernel
theorem dJ8_newLength_cabcc_23 : decode cJ8_newLength_cabcc 23 = .ok (.invokestatic 201, 3) := by decide +kernel
theorem dJ8_newLength_cabcc_26 : decode cJ8_newLength_cabcc 26 = .ok (.ireturn, 1) := by decide +kernel
theorem dJ8_hugeLength_7cf53_0 : decode cJ8_hugeLength_7cf53 0 = .ok (.iload_n 0, 1) := by decide +kernel
theorem dJ8_hugeLength_7cf53_1 : decode cJ8_hugeLength_7cf53 1 = .ok (.iload_n 1, 1) := by decide +kernel
theorem dJ8_hugeLength_7cf53_2 : decode cJ8_hugeLength_7cf53 2 = .ok (.iadd, 1) := by decide +kernel
theorem dJ8_hugeLength_7cf53_3 : decode cJ8_hugeLength_7cf53 3 = .ok (.istore_n 2, 1) := by decide +kernel
theorem dJ8_hugeLength_7cf53_4 : decode cJ8_hugeLength_7cf53 4 = .ok (.iload_n 2, 1) := by decide +kernel
theorem dJ8_hugeLength_7cf53_5 : decode cJ8_hugeLength_7cf53 5 = .ok (.ifCond .ge 44, 3) := by decide +kernel
theorem dJ8_hugeLength_7cf53_8 : decode cJ8_hugeLength_7cf53 8 = .ok (.new 204, 3) := by decide +kernel
theorem dJ8_hugeLength_7cf53_11 : decode cJ8_hugeLength_7cf53 11 = .ok (.dup, 1) := by decide +kernel
theorem dJ8_hugeLength_7cf53_12 : decode cJ8_hugeLength_7cf53 12 = .ok (.new 89, 3) := by decide +kernel
theorem dJ8_hugeLength_7cf53_15 : decode cJ8_hugeLength_7cf53 15 = .ok (.dup, 1) := by decide +kernel
theorem dJ8_hugeLength_7cf53_16 : decode cJ8_hugeLength_7cf53 16 = .ok (.invokespecial 91, 3) := by decide +kernel
theorem dJ8_hugeLength_7cf53_19 : decode cJ8_hugeLength_7cf53 19 = .ok (.ldc 206, 2) := by decide +kernel
theorem dJ8_hugeLength_7cf53_21 : decode cJ8_hugeLength_7cf53 21 = .ok (.invokevirtual 94, 3) := by decide +kernel
theorem dJ8_hugeLength_7cf53_24 : decode cJ8_hugeLength_7cf53 24 = .ok (.iload_n 0, 1) := by decide +kernel
theorem dJ8_hugeLength_7cf53_25 : decode cJ8_hugeLength_7cf53 25 = .ok (.invokevirtual 98, 3) := by decide +kernel
theorem dJ8_hugeLength_7cf53_28 : decode cJ8_hugeLength_7cf53 28 = .ok (.ldc 208, 2) := by decide +kernel
theorem dJ8_hugeLength_7cf53_30 : decode cJ8_hugeLength_7cf53 30 = .ok (.invokevirtual 94, 3) := by decide +kernel
theorem dJ8_hugeLength_7cf53_33 : decode cJ8_hugeLength_7cf53 33 = .ok (.iload_n 1, 1) := by decide +kernel
theorem dJ8_hugeLength_7cf53_34 : decode cJ8_hugeLength_7cf53 34 = .ok (.invokevirtual 98, 3) := by decide +kernel
theorem dJ8_hugeLength_7cf53_37 : decode cJ8_hugeLength_7cf53 37 = .ok (.ldc 210, 2) := by decide +kernel
theorem dJ8_hugeLength_7cf53_39 : decode cJ8_hugeLength_7cf53 39 = .ok (.invokevirtual 94, 3) := by decide +kernel
theorem dJ8_hugeLength_7cf53_42 : decode cJ8_hugeLength_7cf53 42 = .ok (.invokevirtual 101, 3) := by decide +kernel
theorem dJ8_hugeLength_7cf53_45 : decode cJ8_hugeLength_7cf53 45 = .ok (.invokespecial 212, 3) := by decide +kernel
theorem dJ8_hugeLength_7cf53_48 : decode cJ8_hugeLength_7cf53 48 = .ok (.athrow, 1) := by decide +kernel
theorem dJ8_hugeLength_7cf53_49 : decode cJ8_hugeLength_7cf53 49 = .ok (.iload_n 2, 1) := by decide +kernel
theorem dJ8_hugeLength_7cf53_50 : decode cJ8_hugeLength_7cf53 50 = .ok (.ldc 200, 2) := by decide +kernel
theorem dJ8_hugeLength_7cf53_52 : decode cJ8_hugeLength_7cf53 52 = .ok (.if_icmp .gt 6, 3) := by decide +kernel
theorem dJ8_hugeLength_7cf53_55 : decode cJ8_hugeLength_7cf53 55 = .ok (.ldc 200, 2) := by decide +kernel
theorem dJ8_hugeLength_7cf53_57 : decode cJ8_hugeLength_7cf53 57 = .ok (.ireturn, 1) := by decide +kernel
theorem dJ8_hugeLength_7cf53_58 : decode cJ8_hugeLength_7cf53 58 = .ok (.iload_n 2, 1) := by decide +kernel
theorem dJ8_hugeLength_7cf53_59 : decode cJ8_hugeLength_7cf53 59 = .ok (.ireturn, 1) := by decide +kernel
theorem dJ3_checkIndex_8e157_0 : decode cJ3_checkIndex_8e157 0 = .ok (.iload_n 0, 1) := by decide +kernel
theorem dJ3_checkIndex_8e157_1 : decode cJ3_checkIndex_8e157 1 = .ok (.ifCond .lt 8, 3) := by decide +kernel
theorem dJ3_checkIndex_8e157_4 : decode cJ3_checkIndex_8e157 4 = .ok (.iload_n 0, 1) := by decide +kernel
theorem dJ3_checkIndex_8e157_5 : decode cJ3_checkIndex_8e157 5 = .ok (.iload_n 1, 1) := by decide +kernel
theorem dJ3_checkIndex_8e157_6 : decode cJ3_checkIndex_8e157 6 = .ok (.if_icmp .lt 10, 3) := by decide +kernel
theorem dJ3_checkIndex_8e157_9 : decode cJ3_checkIndex_8e157 9 = .ok (.aload_n 2, 1) := by decide +kernel
theorem dJ3_checkIndex_8e157_10 : decode cJ3_checkIndex_8e157 10 = .ok (.iload_n 0, 1) := by decide +kernel
theorem dJ3_checkIndex_8e157_11 : decode cJ3_checkIndex_8e157 11 = .ok (.iload_n 1, 1) := by decide +kernel
theorem dJ3_checkIndex_8e157_12 : decode cJ3_checkIndex_8e157 12 = .ok (.invokestatic 95, 3) := by decide +kernel
theorem dJ3_checkIndex_8e157_15 : decode cJ3_checkIndex_8e157 15 = .ok (.athrow, 1) := by decide +kernel
theorem dJ3_checkIndex_8e157_16 : decode cJ3_checkIndex_8e157 16 = .ok (.iload_n 0, 1) := by decide +kernel
theorem dJ3_checkIndex_8e157_17 : decode cJ3_checkIndex_8e157 17 = .ok (.ireturn, 1) := by decide +kernel
theorem dL_law_0 : decode cL_law 0 = .ok (.new 7, 3) := by decide +kernel
theorem dL_law_3 : decode cL_law 3 = .ok (.dup, 1) := by decide +kernel
theorem dL_law_4 : decode cL_law 4 = .ok (.invokespecial 9, 3) := by decide +kernel
theorem dL_law_7 : decode cL_law 7 = .ok (.astore_n 1, 1) := by decide +kernel
theorem dL_law_8 : decode cL_law 8 = .ok (.new 10, 3) := by decide +kernel
theorem dL_law_11 : decode cL_law 11 = .ok (.dup, 1) := by decide +kernel
theorem dL_law_12 : decode cL_law 12 = .ok (.invokespecial 12, 3) := by decide +kernel
theorem dL_law_15 : decode cL_law 15 = .ok (.astore_n 2, 1) := by decide +kernel
theorem dL_law_16 : decode cL_law 16 = .ok (.iconst 0, 1) := by decide +kernel
theorem dL_law_17 : decode cL_law 17 = .ok (.istore_n 3, 1) := by decide +kernel
theorem dL_law_18 : decode cL_law 18 = .ok (.iload_n 3, 1) := by decide +kernel
theorem dL_law_19 : decode cL_law 19 = .ok (.aload_n 0, 1) := by decide +kernel
theorem dL_law_20 : decode cL_law 20 = .ok (.arraylength, 1) := by decide +kernel
theorem dL_law_21 : decode cL_law 21 = .ok (.iconst 5, 1) := by decide +kernel
theorem dL_law_22 : decode cL_law 22 = .ok (.isub, 1) := by decide +kernel
theorem dL_law_23 : decode cL_law 23 = .ok (.if_icmp .gt 684, 3) := by decide +kernel
theorem dL_law_26 : decode cL_law 26 = .ok (.aload_n 0, 1) := by decide +kernel
theorem dL_law_27 : decode cL_law 27 = .ok (.iload_n 3, 1) := by decide +kernel
theorem dL_law_28 : decode cL_law 28 = .ok (.iaload, 1) := by decide +kernel
theorem dL_law_29 : decode cL_law 29 = .ok (.bipush 31, 2) := by decide +kernel
theorem dL_law_31 : decode cL_law 31 = .ok (.iand, 1) := by decide +kernel
theorem dL_law_32 : decode cL_law 32 = .ok (.tableswitch 669 0 18 #[92, 135, 158, 171, 204, 237, 270, 323, 346, 389, 442, 465, 488, 511, 544, 577, 620, 633, 646], 92) := by decide +kernel
theorem dL_law_124 : decode cL_law 124 = .ok (.aload_n 1, 1) := by decide +kernel
theorem dL_law_125 : decode cL_law 125 = .ok (.aload_n 0, 1) := by decide +kernel
theorem dL_law_126 : decode cL_law 126 = .ok (.iload_n 3, 1) := by decide +kernel
theorem dL_law_127 : decode cL_law 127 = .ok (.iconst 1, 1) := by decide +kernel
theorem dL_law_128 : decode cL_law 128 = .ok (.iadd, 1) := by decide +kernel
theorem dL_law_129 : decode cL_law 129 = .ok (.iaload, 1) := by decide +kernel
theorem dL_law_130 : decode cL_law 130 = .ok (.aload_n 0, 1) := by decide +kernel
theorem dL_law_131 : decode cL_law 131 = .ok (.iload_n 3, 1) := by decide +kernel
theorem dL_law_132 : decode cL_law 132 = .ok (.iconst 2, 1) := by decide +kernel
theorem dL_law_133 : decode cL_law 133 = .ok (.iadd, 1) := by decide +kernel
theorem dL_law_134 : decode cL_law 134 = .ok (.iaload, 1) := by decide +kernel
theorem dL_law_135 : decode cL_law 135 = .ok (.aload_n 0, 1) := by decide +kernel
theorem dL_law_136 : decode cL_law 136 = .ok (.iload_n 3, 1) := by decide +kernel
theorem dL_law_137 : decode cL_law 137 = .ok (.iconst 3, 1) := by decide +kernel
theorem dL_law_138 : decode cL_law 138 = .ok (.iadd, 1) := by decide +kernel
theorem dL_law_139 : decode cL_law 139 = .ok (.iaload, 1) := by decide +kernel
theorem dL_law_140 : decode cL_law 140 = .ok (.invokevirtual 13, 3) := by decide +kernel
theorem dL_law_143 : decode cL_law 143 = .ok (.aload_n 2, 1) := by decide +kernel
theorem dL_law_144 : decode cL_law 144 = .ok (.aload_n 0, 1) := by decide +kernel
theorem dL_law_145 : decode cL_law 145 = .ok (.iload_n 3, 1) := by decide +kernel
theorem dL_law_146 : decode cL_law 146 = .ok (.iconst 1, 1) := by decide +kernel
theorem dL_law_147 : decode cL_law 147 = .ok (.iadd, 1) := by decide +kernel
theorem dL_law_148 : decode cL_law 148 = .ok (.iaload, 1) := by decide +kernel
theorem dL_law_149 : decode cL_law 149 = .ok (.aload_n 0, 1) := by decide +kernel
theorem dL_law_150 : decode cL_law 150 = .ok (.iload_n 3, 1) := by decide +kernel
theorem dL_law_151 : decode cL_law 151 = .ok (.iconst 2, 1) := by decide +kernel
theorem dL_law_152 : decode cL_law 152 = .ok (.iadd, 1) := by decide +kernel
theorem dL_law_153 : decode cL_law 153 = .ok (.iaload, 1) := by decide +kernel
theorem dL_law_154 : decode cL_law 154 = .ok (.aload_n 0, 1) := by decide +kernel
theorem dL_law_155 : decode cL_law 155 = .ok (.iload_n 3, 1) := by decide +kernel
theorem dL_law_156 : decode cL_law 156 = .ok (.iconst 3, 1) := by decide +kernel
theorem dL_law_157 : decode cL_law 157 = .ok (.iadd, 1) := by decide +kernel
theorem dL_law_158 : decode cL_law 158 = .ok (.iaload, 1) := by decide +kernel
theorem dL_law_159 : decode cL_law 159 = .ok (.invokevirtual 17, 3) := by decide +kernel
theorem dL_law_162 : decode cL_law 162 = .ok (.if_icmp .eq 539, 3) := by decide +kernel
theorem dL_law_165 : decode cL_law 165 = .ok (.iconst 0, 1) := by decide +kernel
theorem dL_law_166 : decode cL_law 166 = .ok (.ireturn, 1) := by decide +kernel
theorem dL_law_167 : decode cL_law 167 = .ok (.aload_n 1, 1) := by decide +kernel
theorem dL_law_168 : decode cL_law 168 = .ok (.aload_n 0, 1) := by decide +kernel
theorem dL_law_169 : decode cL_law 169 = .ok (.iload_n 3, 1) := by decide +kernel
theorem dL_law_170 : decode cL_law 170 = .ok (.iconst 1, 1) := by decide +kernel
theorem dL_law_171 : decode cL_law 171 = .ok (.iadd, 1) := by decide +kernel
theorem dL_law_172 : decode cL_law 172 = .ok (.iaload, 1) := by decide +kernel
theorem dL_law_173 : decode cL_law 173 = .ok (.invokevirtual 18, 3) := by decide +kernel
theorem dL_law_176 : decode cL_law 176 = .ok (.aload_n 2, 1) := by decide +kernel
theorem dL_law_177 : decode cL_law 177 = .ok (.aload_n 0, 1) := by decide +kernel
theorem dL_law_178 : decode cL_law 178 = .ok (.iload_n 3, 1) := by decide +kernel
theorem dL_law_179 : decode cL_law 179 = .ok (.iconst 1, 1) := by decide +kernel
theorem dL_law_180 : decode cL_law 180 = .ok (.iadd, 1) := by decide +kernel
theorem dL_law_181 : decode cL_law 181 = .ok (.iaload, 1) := by decide +kernel
theorem dL_law_182 : decode cL_law 182 = .ok (.invokevirtual 22, 3) := by decide +kernel
theorem dL_law_185 : decode cL_law 185 = .ok (.if_icmp .eq 516, 3) := by decide +kernel
theorem dL_law_188 : decode cL_law 188 = .ok (.iconst 0, 1) := by decide +kernel
theorem dL_law_189 : decode cL_law 189 = .ok (.ireturn, 1) := by decide +kernel
theorem dL_law_190 : decode cL_law 190 = .ok (.aload_n 1, 1) := by decide +kernel
theorem dL_law_191 : decode cL_law 191 = .ok (.invokevirtual 23, 3) := by decide +kernel
theorem dL_law_194 : decode cL_law 194 = .ok (.aload_n 2, 1) := by decide +kernel
theorem dL_law_195 : decode cL_law 195 = .ok (.invokevirtual 27, 3) := by decide +kernel
theorem dL_law_198 : decode cL_law 198 = .ok (.if_icmp .eq 503, 3) := by decide +kernel
theorem dL_law_201 : decode cL_law 201 = .ok (.iconst 0, 1) := by decide +kernel
theorem dL_law_202 : decode cL_law 202 = .ok (.ireturn, 1) := by decide +kernel
theorem dL_law_203 : decode cL_law 203 = .ok (.aload_n 1, 1) := by decide +kernel
theorem dL_law_204 : decode cL_law 204 = .ok (.aload_n 0, 1) := by decide +kernel
theorem dL_law_205 : decode cL_law 205 = .ok (.iload_n 3, 1) := by decide +kernel
theorem dL_law_206 : decode cL_law 206 = .ok (.iconst 1, 1) := by decide +kernel
theorem dL_law_207 : decode cL_law 207 = .ok (.iadd, 1) := by decide +kernel
theorem dL_law_208 : decode cL_law 208 = .ok (.iaload, 1) := by decide +kernel
theorem dL_law_209 : decode cL_law 209 = .ok (.aload_n 0, 1) := by decide +kernel
theorem dL_law_210 : decode cL_law 210 = .ok (.iload_n 3, 1) := by decide +kernel
theorem dL_law_211 : decode cL_law 211 = .ok (.iconst 2, 1) := by decide +kernel
theorem dL_law_212 : decode cL_law 212 = .ok (.iadd, 1) := by decide +kernel
theorem dL_law_213 : decode cL_law 213 = .ok (.iaload, 1) := by decide +kernel
theorem dL_law_214 : decode cL_law 214 = .ok (.invokevirtual 28, 3) := by decide +kernel
theorem dL_law_217 : decode cL_law 217 = .ok (.aload_n 2, 1) := by decide +kernel
theorem dL_law_218 : decode cL_law 218 = .ok (.aload_n 0, 1) := by decide +kernel
theorem dL_law_219 : decode cL_law 219 = .ok (.iload_n 3, 1) := by decide +kernel
theorem dL_law_220 : decode cL_law 220 = .ok (.iconst 1, 1) := by decide +kernel
theorem dL_law_221 : decode cL_law 221 = .ok (.iadd, 1) := by decide +kernel
theorem dL_law_222 : decode cL_law 222 = .ok (.iaload, 1) := by decide +kernel
theorem dL_law_223 : decode cL_law 223 = .ok (.aload_n 0, 1) := by decide +kernel
theorem dL_law_224 : decode cL_law 224 = .ok (.iload_n 3, 1) := by decide +kernel
theorem dL_law_225 : decode cL_law 225 = .ok (.iconst 2, 1) := by decide +kernel
theorem dL_law_226 : decode cL_law 226 = .ok (.iadd, 1) := by decide +kernel
theorem dL_law_227 : decode cL_law 227 = .ok (.iaload, 1) := by decide +kernel
theorem dL_law_228 : decode cL_law 228 = .ok (.invokevirtual 32, 3) := by decide +kernel
theorem dL_law_231 : decode cL_law 231 = .ok (.if_icmp .eq 470, 3) := by decide +kernel
theorem dL_law_234 : decode cL_law 234 = .ok (.iconst 0, 1) := by decide +kernel
theorem dL_law_235 : decode cL_law 235 = .ok (.ireturn, 1) := by decide +kernel
theorem dL_law_236 : decode cL_law 236 = .ok (.aload_n 1, 1) := by decide +kernel
theorem dL_law_237 : decode cL_law 237 = .ok (.aload_n 0, 1) := by decide +kernel
theorem dL_law_238 : decode cL_law 238 = .ok (.iload_n 3, 1) := by decide +kernel
theorem dL_law_239 : decode cL_law 239 = .ok (.iconst 1, 1) := by decide +kernel
theorem dL_law_240 : decode cL_law 240 = .ok (.iadd, 1) := by decide +kernel
theorem dL_law_241 : decode cL_law 241 = .ok (.iaload, 1) := by decide +kernel
theorem dL_law_242 : decode cL_law 242 = .ok (.aload_n 0, 1) := by decide +kernel
theorem dL_law_243 : decode cL_law 243 = .ok (.iload_n 3, 1) := by decide +kernel
theorem dL_law_244 : decode cL_law 244 = .ok (.iconst 2, 1) := by decide +kernel
theorem dL_law_245 : decode cL_law 245 = .ok (.iadd, 1) := by decide +kernel
theorem dL_law_246 : decode cL_law 246 = .ok (.iaload, 1) := by decide +kernel
theorem dL_law_247 : decode cL_law 247 = .ok (.invokevirtual 33, 3) := by decide +kernel
theorem dL_law_250 : decode cL_law 250 = .ok (.aload_n 2, 1) := by decide +kernel
theorem dL_law_251 : decode cL_law 251 = .ok (.aload_n 0, 1) := by decide +kernel
theorem dL_law_252 : decode cL_law 252 = .ok (.iload_n 3, 1) := by decide +kernel
theorem dL_law_253 : decode cL_law 253 = .ok (.iconst 1, 1) := by decide +kernel
theorem dL_law_254 : decode cL_law 254 = .ok (.iadd, 1) := by decide +kernel
theorem dL_law_255 : decode cL_law 255 = .ok (.iaload, 1) := by decide +kernel
theorem dL_law_256 : decode cL_law 256 = .ok (.aload_n 0, 1) := by decide +kernel
theorem dL_law_257 : decode cL_law 257 = .ok (.iload_n 3, 1) := by decide +kernel
theorem dL_law_258 : decode cL_law 258 = .ok (.iconst 2, 1) := by decide +kernel
theorem dL_law_259 : decode cL_law 259 = .ok (.iadd, 1) := by decide +kernel
theorem dL_law_260 : decode cL_law 260 = .ok (.iaload, 1) := by decide +kernel
theorem dL_law_261 : decode cL_law 261 = .ok (.invokevirtual 36, 3) := by decide +kernel
theorem dL_law_264 : decode cL_law 264 = .ok (.if_icmp .eq 437, 3) := by decide +kernel
theorem dL_law_267 : decode cL_law 267 = .ok (.iconst 0, 1) := by decide +kernel
theorem dL_law_268 : decode cL_law 268 = .ok (.ireturn, 1) := by decide +kernel
theorem dL_law_269 : decode cL_law 269 = .ok (.aload_n 1, 1) := by decide +kernel
theorem dL_law_270 : decode cL_law 270 = .ok (.aload_n 0, 1) := by decide +kernel
theorem dL_law_271 : decode cL_law 271 = .ok (.iload_n 3, 1) := by decide +kernel
theorem dL_law_272 : decode cL_law 272 = .ok (.iconst 1, 1) := by decide +kernel
theorem dL_law_273 : decode cL_law 273 = .ok (.iadd, 1) := by decide +kernel
theorem dL_law_274 : decode cL_law 274 = .ok (.iaload, 1) := by decide +kernel
theorem dL_law_275 : decode cL_law 275 = .ok (.aload_n 0, 1) := by decide +kernel
theorem dL_law_276 : decode cL_law 276 = .ok (.iload_n 3, 1) := by decide +kernel
theorem dL_law_277 : decode cL_law 277 = .ok (.iconst 2, 1) := by decide +kernel
theorem dL_law_278 : decode cL_law 278 = .ok (.iadd, 1) := by decide +kernel
theorem dL_law_279 : decode cL_law 279 = .ok (.iaload, 1) := by decide +kernel
theorem dL_law_280 : decode cL_law 280 = .ok (.invokevirtual 37, 3) := by decide +kernel
theorem dL_law_283 : decode cL_law 283 = .ok (.aload_n 2, 1) := by decide +kernel
theorem dL_law_284 : decode cL_law 284 = .ok (.aload_n 0, 1) := by decide +kernel
theorem dL_law_285 : decode cL_law 285 = .ok (.iload_n 3, 1) := by decide +kernel
theorem dL_law_286 : decode cL_law 286 = .ok (.iconst 1, 1) := by decide +kernel
theorem dL_law_287 : decode cL_law 287 = .ok (.iadd, 1) := by decide +kernel
theorem dL_law_288 : decode cL_law 288 = .ok (.iaload, 1) := by decide +kernel
theorem dL_law_289 : decode cL_law 289 = .ok (.aload_n 0, 1) := by decide +kernel
theorem dL_law_290 : decode cL_law 290 = .ok (.iload_n 3, 1) := by decide +kernel
theorem dL_law_291 : decode cL_law 291 = .ok (.iconst 2, 1) := by decide +kernel
theorem dL_law_292 : decode cL_law 292 = .ok (.iadd, 1) := by decide +kernel
theorem dL_law_293 : decode cL_law 293 = .ok (.iaload, 1) := by decide +kernel
theorem dL_law_294 : decode cL_law 294 = .ok (.invokevirtual 40, 3) := by decide +kernel
theorem dL_law_297 : decode cL_law 297 = .ok (.if_icmp .eq 404, 3) := by decide +kernel
theorem dL_law_300 : decode cL_law 300 = .ok (.iconst 0, 1) := by decide +kernel
theorem dL_law_301 : decode cL_law 301 = .ok (.ireturn, 1) := by decide +kernel
theorem dL_law_302 : decode cL_law 302 = .ok (.aload_n 1, 1) := by decide +kernel
theorem dL_law_303 : decode cL_law 303 = .ok (.aload_n 0, 1) := by decide +kernel
theorem dL_law_304 : decode cL_law 304 = .ok (.iload_n 3, 1) := by decide +kernel
theorem dL_law_305 : decode cL_law 305 = .ok (.iconst 1, 1) := by decide +kernel
theorem dL_law_306 : decode cL_law 306 = .ok (.iadd, 1) := by decide +kernel
theorem dL_law_307 : decode cL_law 307 = .ok (.iaload, 1) := by decide +kernel
theorem dL_law_308 : decode cL_law 308 = .ok (.aload_n 0, 1) := by decide +kernel
theorem dL_law_309 : decode cL_law 309 = .ok (.iload_n 3, 1) := by decide +kernel
theorem dL_law_310 : decode cL_law 310 = .ok (.iconst 2, 1) := by decide +kernel
theorem dL_law_311 : decode cL_law 311 = .ok (.iadd, 1) := by decide +kernel
theorem dL_law_312 : decode cL_law 312 = .ok (.iaload, 1) := by decide +kernel
theorem dL_law_313 : decode cL_law 313 = .ok (.aload_n 0, 1) := by decide +kernel
theorem dL_law_314 : decode cL_law 314 = .ok (.iload_n 3, 1) := by decide +kernel
theorem dL_law_315 : decode cL_law 315 = .ok (.iconst 3, 1) := by decide +kernel
theorem dL_law_316 : decode cL_law 316 = .ok (.iadd, 1) := by decide +kernel
theorem dL_law_317 : decode cL_law 317 = .ok (.iaload, 1) := by decide +kernel
theorem dL_law_318 : decode cL_law 318 = .ok (.aload_n 0, 1) := by decide +kernel
theorem dL_law_319 : decode cL_law 319 = .ok (.iload_n 3, 1) := by decide +kernel
theorem dL_law_320 : decode cL_law 320 = .ok (.iconst 4, 1) := by decide +kernel
theorem dL_law_321 : decode cL_law 321 = .ok (.iadd, 1) := by decide +kernel
theorem dL_law_322 : decode cL_law 322 = .ok (.iaload, 1) := by decide +kernel
theorem dL_law_323 : decode cL_law 323 = .ok (.invokevirtual 41, 3) := by decide +kernel
theorem dL_law_326 : decode cL_law 326 = .ok (.aload_n 2, 1) := by decide +kernel
theorem dL_law_327 : decode cL_law 327 = .ok (.aload_n 0, 1) := by decide +kernel
theorem dL_law_328 : decode cL_law 328 = .ok (.iload_n 3, 1) := by decide +kernel
theorem dL_law_329 : decode cL_law 329 = .ok (.iconst 1, 1) := by decide +kernel
theorem dL_law_330 : decode cL_law 330 = .ok (.iadd, 1) := by decide +kernel
theorem dL_law_331 : decode cL_law 331 = .ok (.iaload, 1) := by decide +kernel
theorem dL_law_332 : decode cL_law 332 = .ok (.aload_n 0, 1) := by decide +kernel
theorem dL_law_333 : decode cL_law 333 = .ok (.iload_n 3, 1) := by decide +kernel
theorem dL_law_334 : decode cL_law 334 = .ok (.iconst 2, 1) := by decide +kernel
theorem dL_law_335 : decode cL_law 335 = .ok (.iadd, 1) := by decide +kernel
theorem dL_law_336 : decode cL_law 336 = .ok (.iaload, 1) := by decide +kernel
theorem dL_law_337 : decode cL_law 337 = .ok (.aload_n 0, 1) := by decide +kernel
theorem dL_law_338 : decode cL_law 338 = .ok (.iload_n 3, 1) := by decide +kernel
theorem dL_law_339 : decode cL_law 339 = .ok (.iconst 3, 1) := by decide +kernel
theorem dL_law_340 : decode cL_law 340 = .ok (.iadd, 1) := by decide +kernel
theorem dL_law_341 : decode cL_law 341 = .ok (.iaload, 1) := by decide +kernel
theorem dL_law_342 : decode cL_law 342 = .ok (.aload_n 0, 1) := by decide +kernel
theorem dL_law_343 : decode cL_law 343 = .ok (.iload_n 3, 1) := by decide +kernel
theorem dL_law_344 : decode cL_law 344 = .ok (.iconst 4, 1) := by decide +kernel
theorem dL_law_345 : decode cL_law 345 = .ok (.iadd, 1) := by decide +kernel
theorem dL_law_346 : decode cL_law 346 = .ok (.iaload, 1) := by decide +kernel
theorem dL_law_347 : decode cL_law 347 = .ok (.invokevirtual 45, 3) := by decide +kernel
theorem dL_law_350 : decode cL_law 350 = .ok (.if_icmp .eq 351, 3) := by decide +kernel
theorem dL_law_353 : decode cL_law 353 = .ok (.iconst 0, 1) := by decide +kernel
theorem dL_law_354 : decode cL_law 354 = .ok (.ireturn, 1) := by decide +kernel
theorem dL_law_355 : decode cL_law 355 = .ok (.aload_n 1, 1) := by decide +kernel
theorem dL_law_356 : decode cL_law 356 = .ok (.aload_n 0, 1) := by decide +kernel
theorem dL_law_357 : decode cL_law 357 = .ok (.iload_n 3, 1) := by decide +kernel
theorem dL_law_358 : decode cL_law 358 = .ok (.iconst 1, 1) := by decide +kernel
theorem dL_law_359 : decode cL_law 359 = .ok (.iadd, 1) := by decide +kernel
theorem dL_law_360 : decode cL_law 360 = .ok (.iaload, 1) := by decide +kernel
theorem dL_law_361 : decode cL_law 361 = .ok (.invokevirtual 46, 3) := by decide +kernel
theorem dL_law_364 : decode cL_law 364 = .ok (.aload_n 2, 1) := by decide +kernel
theorem dL_law_365 : decode cL_law 365 = .ok (.aload_n 0, 1) := by decide +kernel
theorem dL_law_366 : decode cL_law 366 = .ok (.iload_n 3, 1) := by decide +kernel
theorem dL_law_367 : decode cL_law 367 = .ok (.iconst 1, 1) := by decide +kernel
theorem dL_law_368 : decode cL_law 368 = .ok (.iadd, 1) := by decide +kernel
theorem dL_law_369 : decode cL_law 369 = .ok (.iaload, 1) := by decide +kernel
theorem dL_law_370 : decode cL_law 370 = .ok (.invokevirtual 49, 3) := by decide +kernel
theorem dL_law_373 : decode cL_law 373 = .ok (.if_icmp .eq 328, 3) := by decide +kernel
theorem dL_law_376 : decode cL_law 376 = .ok (.iconst 0, 1) := by decide +kernel
theorem dL_law_377 : decode cL_law 377 = .ok (.ireturn, 1) := by decide +kernel
theorem dL_law_378 : decode cL_law 378 = .ok (.aload_n 1, 1) := by decide +kernel
theorem dL_law_379 : decode cL_law 379 = .ok (.aload_n 0, 1) := by decide +kernel
theorem dL_law_380 : decode cL_law 380 = .ok (.iload_n 3, 1) := by decide +kernel
theorem dL_law_381 : decode cL_law 381 = .ok (.iconst 1, 1) := by decide +kernel
theorem dL_law_382 : decode cL_law 382 = .ok (.iadd, 1) := by decide +kernel
theorem dL_law_383 : decode cL_law 383 = .ok (.iaload, 1) := by decide +kernel
theorem dL_law_384 : decode cL_law 384 = .ok (.aload_n 0, 1) := by decide +kernel
theorem dL_law_385 : decode cL_law 385 = .ok (.iload_n 3, 1) := by decide +kernel
theorem dL_law_386 : decode cL_law 386 = .ok (.iconst 2, 1) := by decide +kernel
theorem dL_law_387 : decode cL_law 387 = .ok (.iadd, 1) := by decide +kernel
theorem dL_law_388 : decode cL_law 388 = .ok (.iaload, 1) := by decide +kernel
theorem dL_law_389 : decode cL_law 389 = .ok (.aload_n 0, 1) := by decide +kernel
theorem dL_law_390 : decode cL_law 390 = .ok (.iload_n 3, 1) := by decide +kernel
theorem dL_law_391 : decode cL_law 391 = .ok (.iconst 3, 1) := by decide +kernel
theorem dL_law_392 : decode cL_law 392 = .ok (.iadd, 1) := by decide +kernel
theorem dL_law_393 : decode cL_law 393 = .ok (.iaload, 1) := by decide +kernel
theorem dL_law_394 : decode cL_law 394 = .ok (.invokevirtual 50, 3) := by decide +kernel
theorem dL_law_397 : decode cL_law 397 = .ok (.aload_n 2, 1) := by decide +kernel
theorem dL_law_398 : decode cL_law 398 = .ok (.aload_n 0, 1) := by decide +kernel
theorem dL_law_399 : decode cL_law 399 = .ok (.iload_n 3, 1) := by decide +kernel
theorem dL_law_400 : decode cL_law 400 = .ok (.iconst 1, 1) := by decide +kernel
theorem dL_law_401 : decode cL_law 401 = .ok (.iadd, 1) := by decide +kernel
theorem dL_law_402 : decode cL_law 402 = .ok (.iaload, 1) := by decide +kernel
theorem dL_law_403 : decode cL_law 403 = .ok (.aload_n 0, 1) := by decide +kernel
theorem dL_law_404 : decode cL_law 404 = .ok (.iload_n 3, 1) := by decide +kernel
theorem dL_law_405 : decode cL_law 405 = .ok (.iconst 2, 1) := by decide +kernel
theorem dL_law_406 : decode cL_law 406 = .ok (.iadd, 1) := by decide +kernel
theorem dL_law_407 : decode cL_law 407 = .ok (.iaload, 1) := by decide +kernel
theorem dL_law_408 : decode cL_law 408 = .ok (.aload_n 0, 1) := by decide +kernel
theorem dL_law_409 : decode cL_law 409 = .ok (.iload_n 3, 1) := by decide +kernel
theorem dL_law_410 : decode cL_law 410 = .ok (.iconst 3, 1) := by decide +kernel
theorem dL_law_411 : decode cL_law 411 = .ok (.iadd, 1) := by decide +kernel
theorem dL_law_412 : decode cL_law 412 = .ok (.iaload, 1) := by decide +kernel
theorem dL_law_413 : decode cL_law 413 = .ok (.invokevirtual 53, 3) := by decide +kernel
theorem dL_law_416 : decode cL_law 416 = .ok (.if_icmp .eq 285, 3) := by decide +kernel
theorem dL_law_419 : decode cL_law 419 = .ok (.iconst 0, 1) := by decide +kernel
theorem dL_law_420 : decode cL_law 420 = .ok (.ireturn, 1) := by decide +kernel
theorem dL_law_421 : decode cL_law 421 = .ok (.aload_n 1, 1) := by decide +kernel
theorem dL_law_422 : decode cL_law 422 = .ok (.aload_n 0, 1) := by decide +kernel
theorem dL_law_423 : decode cL_law 423 = .ok (.iload_n 3, 1) := by decide +kernel
theorem dL_law_424 : decode cL_law 424 = .ok (.iconst 1, 1) := by decide +kernel
theorem dL_law_425 : decode cL_law 425 = .ok (.iadd, 1) := by decide +kernel
theorem dL_law_426 : decode cL_law 426 = .ok (.iaload, 1) := by decide +kernel
theorem dL_law_427 : decode cL_law 427 = .ok (.aload_n 0, 1) := by decide +kernel
theorem dL_law_428 : decode cL_law 428 = .ok (.iload_n 3, 1) := by decide +kernel
theorem dL_law_429 : decode cL_law 429 = .ok (.iconst 2, 1) := by decide +kernel
theorem dL_law_430 : decode cL_law 430 = .ok (.iadd, 1) := by decide +kernel
theorem dL_law_431 : decode cL_law 431 = .ok (.iaload, 1) := by decide +kernel
theorem dL_law_432 : decode cL_law 432 = .ok (.aload_n 0, 1) := by decide +kernel
theorem dL_law_433 : decode cL_law 433 = .ok (.iload_n 3, 1) := by decide +kernel
theorem dL_law_434 : decode cL_law 434 = .ok (.iconst 3, 1) := by decide +kernel
theorem dL_law_435 : decode cL_law 435 = .ok (.iadd, 1) := by decide +kernel
theorem dL_law_436 : decode cL_law 436 = .ok (.iaload, 1) := by decide +kernel
theorem dL_law_437 : decode cL_law 437 = .ok (.aload_n 0, 1) := by decide +kernel
theorem dL_law_438 : decode cL_law 438 = .ok (.iload_n 3, 1) := by decide +kernel
theorem dL_law_439 : decode cL_law 439 = .ok (.iconst 4, 1) := by decide +kernel
theorem dL_law_440 : decode cL_law 440 = .ok (.iadd, 1) := by decide +kernel
theorem dL_law_441 : decode cL_law 441 = .ok (.iaload, 1) := by decide +kernel
theorem dL_law_442 : decode cL_law 442 = .ok (.invokevirtual 54, 3) := by decide +kernel
theorem dL_law_445 : decode cL_law 445 = .ok (.aload_n 2, 1) := by decide +kernel
theorem dL_law_446 : decode cL_law 446 = .ok (.aload_n 0, 1) := by decide +kernel
theorem dL_law_447 : decode cL_law 447 = .ok (.iload_n 3, 1) := by decide +kernel
theorem dL_law_448 : decode cL_law 448 = .ok (.iconst 1, 1) := by decide +kernel
theorem dL_law_449 : decode cL_law 449 = .ok (.iadd, 1) := by decide +kernel
theorem dL_law_450 : decode cL_law 450 = .ok (.iaload, 1) := by decide +kernel
theorem dL_law_451 : decode cL_law 451 = .ok (.aload_n 0, 1) := by decide +kernel
theorem dL_law_452 : decode cL_law 452 = .ok (.iload_n 3, 1) := by decide +kernel
theorem dL_law_453 : decode cL_law 453 = .ok (.iconst 2, 1) := by decide +kernel
theorem dL_law_454 : decode cL_law 454 = .ok (.iadd, 1) := by decide +kernel
theorem dL_law_455 : decode cL_law 455 = .ok (.iaload, 1) := by decide +kernel
theorem dL_law_456 : decode cL_law 456 = .ok (.aload_n 0, 1) := by decide +kernel
theorem dL_law_457 : decode cL_law 457 = .ok (.iload_n 3, 1) := by decide +kernel
theorem dL_law_458 : decode cL_law 458 = .ok (.iconst 3, 1) := by decide +kernel
theorem dL_law_459 : decode cL_law 459 = .ok (.iadd, 1) := by decide +kernel
theorem dL_law_460 : decode cL_law 460 = .ok (.iaload, 1) := by decide +kernel
theorem dL_law_461 : decode cL_law 461 = .ok (.aload_n 0, 1) := by decide +kernel
theorem dL_law_462 : decode cL_law 462 = .ok (.iload_n 3, 1) := by decide +kernel
theorem dL_law_463 : decode cL_law 463 = .ok (.iconst 4, 1) := by decide +kernel
theorem dL_law_464 : decode cL_law 464 = .ok (.iadd, 1) := by decide +kernel
theorem dL_law_465 : decode cL_law 465 = .ok (.iaload, 1) := by decide +kernel
theorem dL_law_466 : decode cL_law 466 = .ok (.invokevirtual 57, 3) := by decide +kernel
theorem dL_law_469 : decode cL_law 469 = .ok (.if_icmp .eq 232, 3) := by decide +kernel
theorem dL_law_472 : decode cL_law 472 = .ok (.iconst 0, 1) := by decide +kernel
theorem dL_law_473 : decode cL_law 473 = .ok (.ireturn, 1) := by decide +kernel
theorem dL_law_474 : decode cL_law 474 = .ok (.aload_n 1, 1) := by decide +kernel
theorem dL_law_475 : decode cL_law 475 = .ok (.aload_n 0, 1) := by decide +kernel
theorem dL_law_476 : decode cL_law 476 = .ok (.iload_n 3, 1) := by decide +kernel
theorem dL_law_477 : decode cL_law 477 = .ok (.iconst 1, 1) := by decide +kernel
theorem dL_law_478 : decode cL_law 478 = .ok (.iadd, 1) := by decide +kernel
theorem dL_law_479 : decode cL_law 479 = .ok (.iaload, 1) := by decide +kernel
theorem dL_law_480 : decode cL_law 480 = .ok (.invokevirtual 58, 3) := by decide +kernel
theorem dL_law_483 : decode cL_law 483 = .ok (.aload_n 2, 1) := by decide +kernel
theorem dL_law_484 : decode cL_law 484 = .ok (.aload_n 0, 1) := by decide +kernel
theorem dL_law_485 : decode cL_law 485 = .ok (.iload_n 3, 1) := by decide +kernel
theorem dL_law_486 : decode cL_law 486 = .ok (.iconst 1, 1) := by decide +kernel
theorem dL_law_487 : decode cL_law 487 = .ok (.iadd, 1) := by decide +kernel
theorem dL_law_488 : decode cL_law 488 = .ok (.iaload, 1) := by decide +kernel
theorem dL_law_489 : decode cL_law 489 = .ok (.invokevirtual 61, 3) := by decide +kernel
theorem dL_law_492 : decode cL_law 492 = .ok (.if_icmp .eq 209, 3) := by decide +kernel
theorem dL_law_495 : decode cL_law 495 = .ok (.iconst 0, 1) := by decide +kernel
theorem dL_law_496 : decode cL_law 496 = .ok (.ireturn, 1) := by decide +kernel
theorem dL_law_497 : decode cL_law 497 = .ok (.aload_n 1, 1) := by decide +kernel
theorem dL_law_498 : decode cL_law 498 = .ok (.aload_n 0, 1) := by decide +kernel
theorem dL_law_499 : decode cL_law 499 = .ok (.iload_n 3, 1) := by decide +kernel
theorem dL_law_500 : decode cL_law 500 = .ok (.iconst 1, 1) := by decide +kernel
theorem dL_law_501 : decode cL_law 501 = .ok (.iadd, 1) := by decide +kernel
theorem dL_law_502 : decode cL_law 502 = .ok (.iaload, 1) := by decide +kernel
theorem dL_law_503 : decode cL_law 503 = .ok (.invokevirtual 62, 3) := by decide +kernel
theorem dL_law_506 : decode cL_law 506 = .ok (.aload_n 2, 1) := by decide +kernel
theorem dL_law_507 : decode cL_law 507 = .ok (.aload_n 0, 1) := by decide +kernel
theorem dL_law_508 : decode cL_law 508 = .ok (.iload_n 3, 1) := by decide +kernel
theorem dL_law_509 : decode cL_law 509 = .ok (.iconst 1, 1) := by decide +kernel
theorem dL_law_510 : decode cL_law 510 = .ok (.iadd, 1) := by decide +kernel
theorem dL_law_511 : decode cL_law 511 = .ok (.iaload, 1) := by decide +kernel
theorem dL_law_512 : decode cL_law 512 = .ok (.invokevirtual 65, 3) := by decide +kernel
theorem dL_law_515 : decode cL_law 515 = .ok (.if_icmp .eq 186, 3) := by decide +kernel
theorem dL_law_518 : decode cL_law 518 = .ok (.iconst 0, 1) := by decide +kernel
theorem dL_law_519 : decode cL_law 519 = .ok (.ireturn, 1) := by decide +kernel
theorem dL_law_520 : decode cL_law 520 = .ok (.aload_n 1, 1) := by decide +kernel
theorem dL_law_521 : decode cL_law 521 = .ok (.aload_n 0, 1) := by decide +kernel
theorem dL_law_522 : decode cL_law 522 = .ok (.iload_n 3, 1) := by decide +kernel
theorem dL_law_523 : decode cL_law 523 = .ok (.iconst 1, 1) := by decide +kernel
theorem dL_law_524 : decode cL_law 524 = .ok (.iadd, 1) := by decide +kernel
theorem dL_law_525 : decode cL_law 525 = .ok (.iaload, 1) := by decide +kernel
theorem dL_law_526 : decode cL_law 526 = .ok (.invokevirtual 66, 3) := by decide +kernel
theorem dL_law_529 : decode cL_law 529 = .ok (.aload_n 2, 1) := by decide +kernel
theorem dL_law_530 : decode cL_law 530 = .ok (.aload_n 0, 1) := by decide +kernel
theorem dL_law_531 : decode cL_law 531 = .ok (.iload_n 3, 1) := by decide +kernel
theorem dL_law_532 : decode cL_law 532 = .ok (.iconst 1, 1) := by decide +kernel
theorem dL_law_533 : decode cL_law 533 = .ok (.iadd, 1) := by decide +kernel
theorem dL_law_534 : decode cL_law 534 = .ok (.iaload, 1) := by decide +kernel
theorem dL_law_535 : decode cL_law 535 = .ok (.invokevirtual 69, 3) := by decide +kernel
theorem dL_law_538 : decode cL_law 538 = .ok (.if_icmp .eq 163, 3) := by decide +kernel
theorem dL_law_541 : decode cL_law 541 = .ok (.iconst 0, 1) := by decide +kernel
theorem dL_law_542 : decode cL_law 542 = .ok (.ireturn, 1) := by decide +kernel
theorem dL_law_543 : decode cL_law 543 = .ok (.aload_n 1, 1) := by decide +kernel
theorem dL_law_544 : decode cL_law 544 = .ok (.aload_n 0, 1) := by decide +kernel
theorem dL_law_545 : decode cL_law 545 = .ok (.iload_n 3, 1) := by decide +kernel
theorem dL_law_546 : decode cL_law 546 = .ok (.iconst 1, 1) := by decide +kernel
theorem dL_law_547 : decode cL_law 547 = .ok (.iadd, 1) := by decide +kernel
theorem dL_law_548 : decode cL_law 548 = .ok (.iaload, 1) := by decide +kernel
theorem dL_law_549 : decode cL_law 549 = .ok (.aload_n 0, 1) := by decide +kernel
theorem dL_law_550 : decode cL_law 550 = .ok (.iload_n 3, 1) := by decide +kernel
theorem dL_law_551 : decode cL_law 551 = .ok (.iconst 2, 1) := by decide +kernel
theorem dL_law_552 : decode cL_law 552 = .ok (.iadd, 1) := by decide +kernel
theorem dL_law_553 : decode cL_law 553 = .ok (.iaload, 1) := by decide +kernel
theorem dL_law_554 : decode cL_law 554 = .ok (.invokevirtual 70, 3) := by decide +kernel
theorem dL_law_557 : decode cL_law 557 = .ok (.aload_n 2, 1) := by decide +kernel
theorem dL_law_558 : decode cL_law 558 = .ok (.aload_n 0, 1) := by decide +kernel
theorem dL_law_559 : decode cL_law 559 = .ok (.iload_n 3, 1) := by decide +kernel
theorem dL_law_560 : decode cL_law 560 = .ok (.iconst 1, 1) := by decide +kernel
theorem dL_law_561 : decode cL_law 561 = .ok (.iadd, 1) := by decide +kernel
theorem dL_law_562 : decode cL_law 562 = .ok (.iaload, 1) := by decide +kernel
theorem dL_law_563 : decode cL_law 563 = .ok (.aload_n 0, 1) := by decide +kernel
theorem dL_law_564 : decode cL_law 564 = .ok (.iload_n 3, 1) := by decide +kernel
theorem dL_law_565 : decode cL_law 565 = .ok (.iconst 2, 1) := by decide +kernel
theorem dL_law_566 : decode cL_law 566 = .ok (.iadd, 1) := by decide +kernel
theorem dL_law_567 : decode cL_law 567 = .ok (.iaload, 1) := by decide +kernel
theorem dL_law_568 : decode cL_law 568 = .ok (.invokevirtual 73, 3) := by decide +kernel
theorem dL_law_571 : decode cL_law 571 = .ok (.if_icmp .eq 130, 3) := by decide +kernel
theorem dL_law_574 : decode cL_law 574 = .ok (.iconst 0, 1) := by decide +kernel
theorem dL_law_575 : decode cL_law 575 = .ok (.ireturn, 1) := by decide +kernel
theorem dL_law_576 : decode cL_law 576 = .ok (.aload_n 1, 1) := by decide +kernel
theorem dL_law_577 : decode cL_law 577 = .ok (.aload_n 0, 1) := by decide +kernel
theorem dL_law_578 : decode cL_law 578 = .ok (.iload_n 3, 1) := by decide +kernel
theorem dL_law_579 : decode cL_law 579 = .ok (.iconst 1, 1) := by decide +kernel
theorem dL_law_580 : decode cL_law 580 = .ok (.iadd, 1) := by decide +kernel
theorem dL_law_581 : decode cL_law 581 = .ok (.iaload, 1) := by decide +kernel
theorem dL_law_582 : decode cL_law 582 = .ok (.aload_n 0, 1) := by decide +kernel
theorem dL_law_583 : decode cL_law 583 = .ok (.iload_n 3, 1) := by decide +kernel
theorem dL_law_584 : decode cL_law 584 = .ok (.iconst 2, 1) := by decide +kernel
theorem dL_law_585 : decode cL_law 585 = .ok (.iadd, 1) := by decide +kernel
theorem dL_law_586 : decode cL_law 586 = .ok (.iaload, 1) := by decide +kernel
theorem dL_law_587 : decode cL_law 587 = .ok (.invokevirtual 74, 3) := by decide +kernel
theorem dL_law_590 : decode cL_law 590 = .ok (.aload_n 2, 1) := by decide +kernel
theorem dL_law_591 : decode cL_law 591 = .ok (.aload_n 0, 1) := by decide +kernel
theorem dL_law_592 : decode cL_law 592 = .ok (.iload_n 3, 1) := by decide +kernel
theorem dL_law_593 : decode cL_law 593 = .ok (.iconst 1, 1) := by decide +kernel
theorem dL_law_594 : decode cL_law 594 = .ok (.iadd, 1) := by decide +kernel
theorem dL_law_595 : decode cL_law 595 = .ok (.iaload, 1) := by decide +kernel
theorem dL_law_596 : decode cL_law 596 = .ok (.aload_n 0, 1) := by decide +kernel
theorem dL_law_597 : decode cL_law 597 = .ok (.iload_n 3, 1) := by decide +kernel
theorem dL_law_598 : decode cL_law 598 = .ok (.iconst 2, 1) := by decide +kernel
theorem dL_law_599 : decode cL_law 599 = .ok (.iadd, 1) := by decide +kernel
theorem dL_law_600 : decode cL_law 600 = .ok (.iaload, 1) := by decide +kernel
theorem dL_law_601 : decode cL_law 601 = .ok (.invokevirtual 77, 3) := by decide +kernel
theorem dL_law_604 : decode cL_law 604 = .ok (.if_icmp .eq 97, 3) := by decide +kernel
theorem dL_law_607 : decode cL_law 607 = .ok (.iconst 0, 1) := by decide +kernel
theorem dL_law_608 : decode cL_law 608 = .ok (.ireturn, 1) := by decide +kernel
theorem dL_law_609 : decode cL_law 609 = .ok (.aload_n 1, 1) := by decide +kernel
theorem dL_law_610 : decode cL_law 610 = .ok (.aload_n 0, 1) := by decide +kernel
theorem dL_law_611 : decode cL_law 611 = .ok (.iload_n 3, 1) := by decide +kernel
theorem dL_law_612 : decode cL_law 612 = .ok (.iconst 1, 1) := by decide +kernel
theorem dL_law_613 : decode cL_law 613 = .ok (.iadd, 1) := by decide +kernel
theorem dL_law_614 : decode cL_law 614 = .ok (.iaload, 1) := by decide +kernel
theorem dL_law_615 : decode cL_law 615 = .ok (.aload_n 0, 1) := by decide +kernel
theorem dL_law_616 : decode cL_law 616 = .ok (.iload_n 3, 1) := by decide +kernel
theorem dL_law_617 : decode cL_law 617 = .ok (.iconst 2, 1) := by decide +kernel
theorem dL_law_618 : decode cL_law 618 = .ok (.iadd, 1) := by decide +kernel
theorem dL_law_619 : decode cL_law 619 = .ok (.iaload, 1) := by decide +kernel
theorem dL_law_620 : decode cL_law 620 = .ok (.aload_n 0, 1) := by decide +kernel
theorem dL_law_621 : decode cL_law 621 = .ok (.iload_n 3, 1) := by decide +kernel
