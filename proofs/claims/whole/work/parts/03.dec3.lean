theorem dX9_count_14 : decode cX9_count 14 = .ok (.iload_n 1, 1) := by decide +kernel
theorem dX9_count_15 : decode cX9_count 15 = .ok (.iconst 2, 1) := by decide +kernel
theorem dX9_count_16 : decode cX9_count 16 = .ok (.isub, 1) := by decide +kernel
theorem dX9_count_17 : decode cX9_count 17 = .ok (.invokevirtual 73, 3) := by decide +kernel
theorem dX9_count_20 : decode cX9_count 20 = .ok (.ireturn, 1) := by decide +kernel
theorem dX9_count_21 : decode cX9_count 21 = .ok (.iload_n 1, 1) := by decide +kernel
theorem dX9_count_22 : decode cX9_count 22 = .ok (.bipush 8, 2) := by decide +kernel
theorem dX9_count_24 : decode cX9_count 24 = .ok (.bipush 10, 2) := by decide +kernel
theorem dX9_count_26 : decode cX9_count 26 = .ok (.invokestatic 32, 3) := by decide +kernel
theorem dX9_count_29 : decode cX9_count 29 = .ok (.ifCond .eq 16, 3) := by decide +kernel
theorem dX9_count_32 : decode cX9_count 32 = .ok (.aload_n 0, 1) := by decide +kernel
theorem dX9_count_33 : decode cX9_count 33 = .ok (.getfield 7, 3) := by decide +kernel
theorem dX9_count_36 : decode cX9_count 36 = .ok (.bipush 114, 2) := by decide +kernel
theorem dX9_count_38 : decode cX9_count 38 = .ok (.iload_n 1, 1) := by decide +kernel
theorem dX9_count_39 : decode cX9_count 39 = .ok (.iadd, 1) := by decide +kernel
theorem dX9_count_40 : decode cX9_count 40 = .ok (.bipush 8, 2) := by decide +kernel
theorem dX9_count_42 : decode cX9_count 42 = .ok (.isub, 1) := by decide +kernel
theorem dX9_count_43 : decode cX9_count 43 = .ok (.iaload, 1) := by decide +kernel
theorem dX9_count_44 : decode cX9_count 44 = .ok (.ireturn, 1) := by decide +kernel
theorem dX9_count_45 : decode cX9_count 45 = .ok (.iload_n 1, 1) := by decide +kernel
theorem dX9_count_46 : decode cX9_count 46 = .ok (.bipush 11, 2) := by decide +kernel
theorem dX9_count_48 : decode cX9_count 48 = .ok (.bipush 19, 2) := by decide +kernel
theorem dX9_count_50 : decode cX9_count 50 = .ok (.invokestatic 32, 3) := by decide +kernel
theorem dX9_count_53 : decode cX9_count 53 = .ok (.ifCond .eq 16, 3) := by decide +kernel
theorem dX9_count_56 : decode cX9_count 56 = .ok (.aload_n 0, 1) := by decide +kernel
theorem dX9_count_57 : decode cX9_count 57 = .ok (.getfield 7, 3) := by decide +kernel
theorem dX9_count_60 : decode cX9_count 60 = .ok (.bipush 117, 2) := by decide +kernel
theorem dX9_count_62 : decode cX9_count 62 = .ok (.iload_n 1, 1) := by decide +kernel
theorem dX9_count_63 : decode cX9_count 63 = .ok (.iadd, 1) := by decide +kernel
theorem dX9_count_64 : decode cX9_count 64 = .ok (.bipush 11, 2) := by decide +kernel
theorem dX9_count_66 : decode cX9_count 66 = .ok (.isub, 1) := by decide +kernel
theorem dX9_count_67 : decode cX9_count 67 = .ok (.iaload, 1) := by decide +kernel
theorem dX9_count_68 : decode cX9_count 68 = .ok (.ireturn, 1) := by decide +kernel
theorem dX9_count_69 : decode cX9_count 69 = .ok (.iload_n 1, 1) := by decide +kernel
theorem dX9_count_70 : decode cX9_count 70 = .ok (.lookupswitch 92 #[(0, 58), (1, 65), (7, 72), (20, 77), (21, 82), (22, 87)], 58) := by decide +kernel
theorem dX9_count_128 : decode cX9_count 128 = .ok (.aload_n 0, 1) := by decide +kernel
theorem dX9_count_129 : decode cX9_count 129 = .ok (.getfield 7, 3) := by decide +kernel
theorem dX9_count_132 : decode cX9_count 132 = .ok (.iconst 0, 1) := by decide +kernel
theorem dX9_count_133 : decode cX9_count 133 = .ok (.iaload, 1) := by decide +kernel
theorem dX9_count_134 : decode cX9_count 134 = .ok (.ireturn, 1) := by decide +kernel
theorem dX9_count_135 : decode cX9_count 135 = .ok (.aload_n 0, 1) := by decide +kernel
theorem dX9_count_136 : decode cX9_count 136 = .ok (.iconst 0, 1) := by decide +kernel
theorem dX9_count_137 : decode cX9_count 137 = .ok (.iconst 4, 1) := by decide +kernel
theorem dX9_count_138 : decode cX9_count 138 = .ok (.invokevirtual 73, 3) := by decide +kernel
theorem dX9_count_141 : decode cX9_count 141 = .ok (.ireturn, 1) := by decide +kernel
theorem dX9_count_142 : decode cX9_count 142 = .ok (.aload_n 0, 1) := by decide +kernel
theorem dX9_count_143 : decode cX9_count 143 = .ok (.invokevirtual 98, 3) := by decide +kernel
theorem dX9_count_146 : decode cX9_count 146 = .ok (.ireturn, 1) := by decide +kernel
theorem dX9_count_147 : decode cX9_count 147 = .ok (.aload_n 0, 1) := by decide +kernel
theorem dX9_count_148 : decode cX9_count 148 = .ok (.invokevirtual 102, 3) := by decide +kernel
theorem dX9_count_151 : decode cX9_count 151 = .ok (.ireturn, 1) := by decide +kernel
theorem dX9_count_152 : decode cX9_count 152 = .ok (.aload_n 0, 1) := by decide +kernel
theorem dX9_count_153 : decode cX9_count 153 = .ok (.getfield 28, 3) := by decide +kernel
theorem dX9_count_156 : decode cX9_count 156 = .ok (.ireturn, 1) := by decide +kernel
theorem dX9_count_157 : decode cX9_count 157 = .ok (.aload_n 0, 1) := by decide +kernel
theorem dX9_count_158 : decode cX9_count 158 = .ok (.getfield 105, 3) := by decide +kernel
theorem dX9_count_161 : decode cX9_count 161 = .ok (.ireturn, 1) := by decide +kernel
theorem dX9_count_162 : decode cX9_count 162 = .ok (.iconst (-1), 1) := by decide +kernel
theorem dX9_count_163 : decode cX9_count 163 = .ok (.ireturn, 1) := by decide +kernel
theorem dX9_becomes_0 : decode cX9_becomes 0 = .ok (.aload_n 0, 1) := by decide +kernel
theorem dX9_becomes_1 : decode cX9_becomes 1 = .ok (.getfield 7, 3) := by decide +kernel
theorem dX9_becomes_4 : decode cX9_becomes 4 = .ok (.iload_n 1, 1) := by decide +kernel
theorem dX9_becomes_5 : decode cX9_becomes 5 = .ok (.iaload, 1) := by decide +kernel
theorem dX9_becomes_6 : decode cX9_becomes 6 = .ok (.istore 4, 2) := by decide +kernel
theorem dX9_becomes_8 : decode cX9_becomes 8 = .ok (.aload_n 0, 1) := by decide +kernel
theorem dX9_becomes_9 : decode cX9_becomes 9 = .ok (.getfield 7, 3) := by decide +kernel
theorem dX9_becomes_12 : decode cX9_becomes 12 = .ok (.iload_n 1, 1) := by decide +kernel
theorem dX9_becomes_13 : decode cX9_becomes 13 = .ok (.iconst 1, 1) := by decide +kernel
theorem dX9_becomes_14 : decode cX9_becomes 14 = .ok (.iadd, 1) := by decide +kernel
theorem dX9_becomes_15 : decode cX9_becomes 15 = .ok (.iaload, 1) := by decide +kernel
theorem dX9_becomes_16 : decode cX9_becomes 16 = .ok (.istore 5, 2) := by decide +kernel
theorem dX9_becomes_18 : decode cX9_becomes 18 = .ok (.iload 5, 2) := by decide +kernel
theorem dX9_becomes_20 : decode cX9_becomes 20 = .ok (.iconst 4, 1) := by decide +kernel
theorem dX9_becomes_21 : decode cX9_becomes 21 = .ok (.if_icmp .ne 5, 3) := by decide +kernel
theorem dX9_becomes_24 : decode cX9_becomes 24 = .ok (.iconst 0, 1) := by decide +kernel
theorem dX9_becomes_25 : decode cX9_becomes 25 = .ok (.ireturn, 1) := by decide +kernel
theorem dX9_becomes_26 : decode cX9_becomes 26 = .ok (.iload_n 2, 1) := by decide +kernel
theorem dX9_becomes_27 : decode cX9_becomes 27 = .ok (.aload_n 0, 1) := by decide +kernel
theorem dX9_becomes_28 : decode cX9_becomes 28 = .ok (.iload 4, 2) := by decide +kernel
theorem dX9_becomes_30 : decode cX9_becomes 30 = .ok (.invokevirtual 82, 3) := by decide +kernel
theorem dX9_becomes_33 : decode cX9_becomes 33 = .ok (.if_icmp .le 25, 3) := by decide +kernel
theorem dX9_becomes_36 : decode cX9_becomes 36 = .ok (.aload_n 0, 1) := by decide +kernel
theorem dX9_becomes_37 : decode cX9_becomes 37 = .ok (.getfield 7, 3) := by decide +kernel
theorem dX9_becomes_40 : decode cX9_becomes 40 = .ok (.iload_n 1, 1) := by decide +kernel
theorem dX9_becomes_41 : decode cX9_becomes 41 = .ok (.iconst 1, 1) := by decide +kernel
theorem dX9_becomes_42 : decode cX9_becomes 42 = .ok (.iadd, 1) := by decide +kernel
theorem dX9_becomes_43 : decode cX9_becomes 43 = .ok (.iconst 4, 1) := by decide +kernel
theorem dX9_becomes_44 : decode cX9_becomes 44 = .ok (.iastore, 1) := by decide +kernel
theorem dX9_becomes_45 : decode cX9_becomes 45 = .ok (.aload_n 0, 1) := by decide +kernel
theorem dX9_becomes_46 : decode cX9_becomes 46 = .ok (.getfield 7, 3) := by decide +kernel
theorem dX9_becomes_49 : decode cX9_becomes 49 = .ok (.bipush 123, 2) := by decide +kernel
theorem dX9_becomes_51 : decode cX9_becomes 51 = .ok (.dup2, 1) := by decide +kernel
theorem dX9_becomes_52 : decode cX9_becomes 52 = .ok (.iaload, 1) := by decide +kernel
theorem dX9_becomes_53 : decode cX9_becomes 53 = .ok (.iconst 1, 1) := by decide +kernel
theorem dX9_becomes_54 : decode cX9_becomes 54 = .ok (.iadd, 1) := by decide +kernel
theorem dX9_becomes_55 : decode cX9_becomes 55 = .ok (.iastore, 1) := by decide +kernel
theorem dX9_becomes_56 : decode cX9_becomes 56 = .ok (.iconst 0, 1) := by decide +kernel
theorem dX9_becomes_57 : decode cX9_becomes 57 = .ok (.ireturn, 1) := by decide +kernel
theorem dX9_becomes_58 : decode cX9_becomes 58 = .ok (.iload 5, 2) := by decide +kernel
theorem dX9_becomes_60 : decode cX9_becomes 60 = .ok (.ifCond .eq 9, 3) := by decide +kernel
theorem dX9_becomes_63 : decode cX9_becomes 63 = .ok (.iload 5, 2) := by decide +kernel
theorem dX9_becomes_65 : decode cX9_becomes 65 = .ok (.iconst 1, 1) := by decide +kernel
theorem dX9_becomes_66 : decode cX9_becomes 66 = .ok (.if_icmp .ne 90, 3) := by decide +kernel
theorem dX9_becomes_69 : decode cX9_becomes 69 = .ok (.iload_n 2, 1) := by decide +kernel
theorem dX9_becomes_70 : decode cX9_becomes 70 = .ok (.aload_n 0, 1) := by decide +kernel
theorem dX9_becomes_71 : decode cX9_becomes 71 = .ok (.iload 4, 2) := by decide +kernel
theorem dX9_becomes_73 : decode cX9_becomes 73 = .ok (.invokevirtual 79, 3) := by decide +kernel
theorem dX9_becomes_76 : decode cX9_becomes 76 = .ok (.if_icmp .lt 18, 3) := by decide +kernel
theorem dX9_becomes_79 : decode cX9_becomes 79 = .ok (.iload_n 3, 1) := by decide +kernel
theorem dX9_becomes_80 : decode cX9_becomes 80 = .ok (.aload_n 0, 1) := by decide +kernel
theorem dX9_becomes_81 : decode cX9_becomes 81 = .ok (.getfield 7, 3) := by decide +kernel
theorem dX9_becomes_84 : decode cX9_becomes 84 = .ok (.bipush 114, 2) := by decide +kernel
theorem dX9_becomes_86 : decode cX9_becomes 86 = .ok (.iaload, 1) := by decide +kernel
theorem dX9_becomes_87 : decode cX9_becomes 87 = .ok (.if_icmp .lt 7, 3) := by decide +kernel
theorem dX9_becomes_90 : decode cX9_becomes 90 = .ok (.iconst 1, 1) := by decide +kernel
theorem dX9_becomes_91 : decode cX9_becomes 91 = .ok (.goto 4, 3) := by decide +kernel
theorem dX9_becomes_94 : decode cX9_becomes 94 = .ok (.iconst 0, 1) := by decide +kernel
theorem dX9_becomes_95 : decode cX9_becomes 95 = .ok (.istore 6, 2) := by decide +kernel
theorem dX9_becomes_97 : decode cX9_becomes 97 = .ok (.aload_n 0, 1) := by decide +kernel
theorem dX9_becomes_98 : decode cX9_becomes 98 = .ok (.getfield 7, 3) := by decide +kernel
theorem dX9_becomes_101 : decode cX9_becomes 101 = .ok (.iload_n 1, 1) := by decide +kernel
theorem dX9_becomes_102 : decode cX9_becomes 102 = .ok (.iconst 1, 1) := by decide +kernel
theorem dX9_becomes_103 : decode cX9_becomes 103 = .ok (.iadd, 1) := by decide +kernel
theorem dX9_becomes_104 : decode cX9_becomes 104 = .ok (.iload 6, 2) := by decide +kernel
theorem dX9_becomes_106 : decode cX9_becomes 106 = .ok (.ifCond .eq 7, 3) := by decide +kernel
theorem dX9_becomes_109 : decode cX9_becomes 109 = .ok (.iconst 2, 1) := by decide +kernel
theorem dX9_becomes_110 : decode cX9_becomes 110 = .ok (.goto 22, 3) := by decide +kernel
theorem dX9_becomes_113 : decode cX9_becomes 113 = .ok (.iload_n 2, 1) := by decide +kernel
theorem dX9_becomes_114 : decode cX9_becomes 114 = .ok (.aload_n 0, 1) := by decide +kernel
theorem dX9_becomes_115 : decode cX9_becomes 115 = .ok (.iload 4, 2) := by decide +kernel
theorem dX9_becomes_117 : decode cX9_becomes 117 = .ok (.invokevirtual 79, 3) := by decide +kernel
theorem dX9_becomes_120 : decode cX9_becomes 120 = .ok (.bipush 40, 2) := by decide +kernel
theorem dX9_becomes_122 : decode cX9_becomes 122 = .ok (.isub, 1) := by decide +kernel
theorem dX9_becomes_123 : decode cX9_becomes 123 = .ok (.if_icmp .lt 7, 3) := by decide +kernel
theorem dX9_becomes_126 : decode cX9_becomes 126 = .ok (.iconst 1, 1) := by decide +kernel
theorem dX9_becomes_127 : decode cX9_becomes 127 = .ok (.goto 5, 3) := by decide +kernel
theorem dX9_becomes_130 : decode cX9_becomes 130 = .ok (.iload 5, 2) := by decide +kernel
theorem dX9_becomes_132 : decode cX9_becomes 132 = .ok (.iastore, 1) := by decide +kernel
theorem dX9_becomes_133 : decode cX9_becomes 133 = .ok (.aload_n 0, 1) := by decide +kernel
theorem dX9_becomes_134 : decode cX9_becomes 134 = .ok (.getfield 7, 3) := by decide +kernel
theorem dX9_becomes_137 : decode cX9_becomes 137 = .ok (.bipush 121, 2) := by decide +kernel
theorem dX9_becomes_139 : decode cX9_becomes 139 = .ok (.dup2, 1) := by decide +kernel
theorem dX9_becomes_140 : decode cX9_becomes 140 = .ok (.iaload, 1) := by decide +kernel
theorem dX9_becomes_141 : decode cX9_becomes 141 = .ok (.iload 6, 2) := by decide +kernel
theorem dX9_becomes_143 : decode cX9_becomes 143 = .ok (.ifCond .eq 7, 3) := by decide +kernel
theorem dX9_becomes_146 : decode cX9_becomes 146 = .ok (.iconst 1, 1) := by decide +kernel
theorem dX9_becomes_147 : decode cX9_becomes 147 = .ok (.goto 4, 3) := by decide +kernel
theorem dX9_becomes_150 : decode cX9_becomes 150 = .ok (.iconst 0, 1) := by decide +kernel
theorem dX9_becomes_151 : decode cX9_becomes 151 = .ok (.iadd, 1) := by decide +kernel
theorem dX9_becomes_152 : decode cX9_becomes 152 = .ok (.iastore, 1) := by decide +kernel
theorem dX9_becomes_153 : decode cX9_becomes 153 = .ok (.iload 6, 2) := by decide +kernel
theorem dX9_becomes_155 : decode cX9_becomes 155 = .ok (.ireturn, 1) := by decide +kernel
theorem dX9_becomes_156 : decode cX9_becomes 156 = .ok (.iload_n 2, 1) := by decide +kernel
theorem dX9_becomes_157 : decode cX9_becomes 157 = .ok (.aload_n 0, 1) := by decide +kernel
theorem dX9_becomes_158 : decode cX9_becomes 158 = .ok (.iload 4, 2) := by decide +kernel
theorem dX9_becomes_160 : decode cX9_becomes 160 = .ok (.invokevirtual 79, 3) := by decide +kernel
theorem dX9_becomes_163 : decode cX9_becomes 163 = .ok (.bipush 20, 2) := by decide +kernel
theorem dX9_becomes_165 : decode cX9_becomes 165 = .ok (.isub, 1) := by decide +kernel
theorem dX9_becomes_166 : decode cX9_becomes 166 = .ok (.if_icmp .ge 5, 3) := by decide +kernel
theorem dX9_becomes_169 : decode cX9_becomes 169 = .ok (.iconst 0, 1) := by decide +kernel
theorem dX9_becomes_170 : decode cX9_becomes 170 = .ok (.ireturn, 1) := by decide +kernel
theorem dX9_becomes_171 : decode cX9_becomes 171 = .ok (.aload_n 0, 1) := by decide +kernel
theorem dX9_becomes_172 : decode cX9_becomes 172 = .ok (.getfield 7, 3) := by decide +kernel
theorem dX9_becomes_175 : decode cX9_becomes 175 = .ok (.iload_n 1, 1) := by decide +kernel
theorem dX9_becomes_176 : decode cX9_becomes 176 = .ok (.iconst 2, 1) := by decide +kernel
theorem dX9_becomes_177 : decode cX9_becomes 177 = .ok (.iadd, 1) := by decide +kernel
theorem dX9_becomes_178 : decode cX9_becomes 178 = .ok (.dup2, 1) := by decide +kernel
theorem dX9_becomes_179 : decode cX9_becomes 179 = .ok (.iaload, 1) := by decide +kernel
theorem dX9_becomes_180 : decode cX9_becomes 180 = .ok (.iconst 1, 1) := by decide +kernel
theorem dX9_becomes_181 : decode cX9_becomes 181 = .ok (.iadd, 1) := by decide +kernel
theorem dX9_becomes_182 : decode cX9_becomes 182 = .ok (.iastore, 1) := by decide +kernel
theorem dX9_becomes_183 : decode cX9_becomes 183 = .ok (.aload_n 0, 1) := by decide +kernel
theorem dX9_becomes_184 : decode cX9_becomes 184 = .ok (.getfield 7, 3) := by decide +kernel
theorem dX9_becomes_187 : decode cX9_becomes 187 = .ok (.iload_n 1, 1) := by decide +kernel
theorem dX9_becomes_188 : decode cX9_becomes 188 = .ok (.iconst 2, 1) := by decide +kernel
theorem dX9_becomes_189 : decode cX9_becomes 189 = .ok (.iadd, 1) := by decide +kernel
theorem dX9_becomes_190 : decode cX9_becomes 190 = .ok (.iaload, 1) := by decide +kernel
theorem dX9_becomes_191 : decode cX9_becomes 191 = .ok (.aload_n 0, 1) := by decide +kernel
theorem dX9_becomes_192 : decode cX9_becomes 192 = .ok (.getfield 7, 3) := by decide +kernel
theorem dX9_becomes_195 : decode cX9_becomes 195 = .ok (.bipush 115, 2) := by decide +kernel
theorem dX9_becomes_197 : decode cX9_becomes 197 = .ok (.iaload, 1) := by decide +kernel
theorem dX9_becomes_198 : decode cX9_becomes 198 = .ok (.if_icmp .le 33, 3) := by decide +kernel
theorem dX9_becomes_201 : decode cX9_becomes 201 = .ok (.aload_n 0, 1) := by decide +kernel
theorem dX9_becomes_202 : decode cX9_becomes 202 = .ok (.getfield 7, 3) := by decide +kernel
theorem dX9_becomes_205 : decode cX9_becomes 205 = .ok (.bipush 122, 2) := by decide +kernel
theorem dX9_becomes_207 : decode cX9_becomes 207 = .ok (.dup2, 1) := by decide +kernel
theorem dX9_becomes_208 : decode cX9_becomes 208 = .ok (.iaload, 1) := by decide +kernel
theorem dX9_becomes_209 : decode cX9_becomes 209 = .ok (.iload 5, 2) := by decide +kernel
theorem dX9_becomes_211 : decode cX9_becomes 211 = .ok (.iconst 2, 1) := by decide +kernel
theorem dX9_becomes_212 : decode cX9_becomes 212 = .ok (.if_icmp .ne 7, 3) := by decide +kernel
theorem dX9_becomes_215 : decode cX9_becomes 215 = .ok (.iconst 1, 1) := by decide +kernel
theorem dX9_becomes_216 : decode cX9_becomes 216 = .ok (.goto 4, 3) := by decide +kernel
theorem dX9_becomes_219 : decode cX9_becomes 219 = .ok (.iconst 0, 1) := by decide +kernel
theorem dX9_becomes_220 : decode cX9_becomes 220 = .ok (.iadd, 1) := by decide +kernel
theorem dX9_becomes_221 : decode cX9_becomes 221 = .ok (.iastore, 1) := by decide +kernel
theorem dX9_becomes_222 : decode cX9_becomes 222 = .ok (.aload_n 0, 1) := by decide +kernel
theorem dX9_becomes_223 : decode cX9_becomes 223 = .ok (.getfield 7, 3) := by decide +kernel
theorem dX9_becomes_226 : decode cX9_becomes 226 = .ok (.iload_n 1, 1) := by decide +kernel
theorem dX9_becomes_227 : decode cX9_becomes 227 = .ok (.iconst 1, 1) := by decide +kernel
theorem dX9_becomes_228 : decode cX9_becomes 228 = .ok (.iadd, 1) := by decide +kernel
theorem dX9_becomes_229 : decode cX9_becomes 229 = .ok (.iconst 3, 1) := by decide +kernel
theorem dX9_becomes_230 : decode cX9_becomes 230 = .ok (.iastore, 1) := by decide +kernel
theorem dX9_becomes_231 : decode cX9_becomes 231 = .ok (.iconst 1, 1) := by decide +kernel
theorem dX9_becomes_232 : decode cX9_becomes 232 = .ok (.ireturn, 1) := by decide +kernel
theorem dX9_fires_0 : decode cX9_fires 0 = .ok (.aload_n 0, 1) := by decide +kernel
theorem dX9_fires_1 : decode cX9_fires 1 = .ok (.getfield 7, 3) := by decide +kernel
theorem dX9_fires_4 : decode cX9_fires 4 = .ok (.bipush 117, 2) := by decide +kernel
theorem dX9_fires_6 : decode cX9_fires 6 = .ok (.dup2, 1) := by decide +kernel
theorem dX9_fires_7 : decode cX9_fires 7 = .ok (.iaload, 1) := by decide +kernel
theorem dX9_fires_8 : decode cX9_fires 8 = .ok (.iconst 1, 1) := by decide +kernel
theorem dX9_fires_9 : decode cX9_fires 9 = .ok (.iadd, 1) := by decide +kernel
theorem dX9_fires_10 : decode cX9_fires 10 = .ok (.iastore, 1) := by decide +kernel
theorem dX9_fires_11 : decode cX9_fires 11 = .ok (.aload_n 0, 1) := by decide +kernel
theorem dX9_fires_12 : decode cX9_fires 12 = .ok (.getfield 7, 3) := by decide +kernel
theorem dX9_fires_15 : decode cX9_fires 15 = .ok (.bipush 118, 2) := by decide +kernel
theorem dX9_fires_17 : decode cX9_fires 17 = .ok (.dup2, 1) := by decide +kernel
theorem dX9_fires_18 : decode cX9_fires 18 = .ok (.iaload, 1) := by decide +kernel
theorem dX9_fires_19 : decode cX9_fires 19 = .ok (.iload_n 2, 1) := by decide +kernel
theorem dX9_fires_20 : decode cX9_fires 20 = .ok (.iadd, 1) := by decide +kernel
theorem dX9_fires_21 : decode cX9_fires 21 = .ok (.iastore, 1) := by decide +kernel
theorem dX9_fires_22 : decode cX9_fires 22 = .ok (.iconst 0, 1) := by decide +kernel
theorem dX9_fires_23 : decode cX9_fires 23 = .ok (.istore_n 3, 1) := by decide +kernel
theorem dX9_fires_24 : decode cX9_fires 24 = .ok (.iload_n 3, 1) := by decide +kernel
theorem dX9_fires_25 : decode cX9_fires 25 = .ok (.bipush 7, 2) := by decide +kernel
theorem dX9_fires_27 : decode cX9_fires 27 = .ok (.if_icmp .ge 105, 3) := by decide +kernel
theorem dX9_fires_30 : decode cX9_fires 30 = .ok (.iconst 1, 1) := by decide +kernel
theorem dX9_fires_31 : decode cX9_fires 31 = .ok (.istore 4, 2) := by decide +kernel
theorem dX9_fires_33 : decode cX9_fires 33 = .ok (.iconst 0, 1) := by decide +kernel
theorem dX9_fires_34 : decode cX9_fires 34 = .ok (.istore 5, 2) := by decide +kernel
theorem dX9_fires_36 : decode cX9_fires 36 = .ok (.iload 5, 2) := by decide +kernel
theorem dX9_fires_38 : decode cX9_fires 38 = .ok (.aload_n 0, 1) := by decide +kernel
theorem dX9_fires_39 : decode cX9_fires 39 = .ok (.iload_n 3, 1) := by decide +kernel
theorem dX9_fires_40 : decode cX9_fires 40 = .ok (.invokevirtual 39, 3) := by decide +kernel
theorem dX9_fires_43 : decode cX9_fires 43 = .ok (.if_icmp .ge 40, 3) := by decide +kernel
theorem dX9_fires_46 : decode cX9_fires 46 = .ok (.aload_n 0, 1) := by decide +kernel
theorem dX9_fires_47 : decode cX9_fires 47 = .ok (.iload_n 3, 1) := by decide +kernel
theorem dX9_fires_48 : decode cX9_fires 48 = .ok (.iload 5, 2) := by decide +kernel
theorem dX9_fires_50 : decode cX9_fires 50 = .ok (.invokestatic 63, 3) := by decide +kernel
theorem dX9_fires_53 : decode cX9_fires 53 = .ok (.iload_n 1, 1) := by decide +kernel
theorem dX9_fires_54 : decode cX9_fires 54 = .ok (.iload_n 2, 1) := by decide +kernel
theorem dX9_fires_55 : decode cX9_fires 55 = .ok (.invokevirtual 108, 3) := by decide +kernel
theorem dX9_fires_58 : decode cX9_fires 58 = .ok (.istore 6, 2) := by decide +kernel
theorem dX9_fires_60 : decode cX9_fires 60 = .ok (.iload 4, 2) := by decide +kernel
theorem dX9_fires_62 : decode cX9_fires 62 = .ok (.ifCond .eq 12, 3) := by decide +kernel
theorem dX9_fires_65 : decode cX9_fires 65 = .ok (.iload 6, 2) := by decide +kernel
theorem dX9_fires_67 : decode cX9_fires 67 = .ok (.ifCond .eq 7, 3) := by decide +kernel
theorem dX9_fires_70 : decode cX9_fires 70 = .ok (.iconst 1, 1) := by decide +kernel
theorem dX9_fires_71 : decode cX9_fires 71 = .ok (.goto 4, 3) := by decide +kernel
theorem dX9_fires_74 : decode cX9_fires 74 = .ok (.iconst 0, 1) := by decide +kernel
theorem dX9_fires_75 : decode cX9_fires 75 = .ok (.istore 4, 2) := by decide +kernel
theorem dX9_fires_77 : decode cX9_fires 77 = .ok (.iinc 5 1, 3) := by decide +kernel
theorem dX9_fires_80 : decode cX9_fires 80 = .ok (.goto (-44), 3) := by decide +kernel
theorem dX9_fires_83 : decode cX9_fires 83 = .ok (.iload_n 3, 1) := by decide +kernel
theorem dX9_fires_84 : decode cX9_fires 84 = .ok (.invokestatic 60, 3) := by decide +kernel
theorem dX9_fires_87 : decode cX9_fires 87 = .ok (.iconst 1, 1) := by decide +kernel
theorem dX9_fires_88 : decode cX9_fires 88 = .ok (.iadd, 1) := by decide +kernel
theorem dX9_fires_89 : decode cX9_fires 89 = .ok (.istore 5, 2) := by decide +kernel
theorem dX9_fires_91 : decode cX9_fires 91 = .ok (.iload 4, 2) := by decide +kernel
theorem dX9_fires_93 : decode cX9_fires 93 = .ok (.ifCond .eq 33, 3) := by decide +kernel
theorem dX9_fires_96 : decode cX9_fires 96 = .ok (.aload_n 0, 1) := by decide +kernel
theorem dX9_fires_97 : decode cX9_fires 97 = .ok (.getfield 7, 3) := by decide +kernel
theorem dX9_fires_100 : decode cX9_fires 100 = .ok (.iload 5, 2) := by decide +kernel
theorem dX9_fires_102 : decode cX9_fires 102 = .ok (.iaload, 1) := by decide +kernel
theorem dX9_fires_103 : decode cX9_fires 103 = .ok (.iconst 1, 1) := by decide +kernel
theorem dX9_fires_104 : decode cX9_fires 104 = .ok (.if_icmp .ne 22, 3) := by decide +kernel
theorem dX9_fires_107 : decode cX9_fires 107 = .ok (.aload_n 0, 1) := by decide +kernel
theorem dX9_fires_108 : decode cX9_fires 108 = .ok (.getfield 7, 3) := by decide +kernel
theorem dX9_fires_111 : decode cX9_fires 111 = .ok (.iload 5, 2) := by decide +kernel
theorem dX9_fires_113 : decode cX9_fires 113 = .ok (.iconst 0, 1) := by decide +kernel
theorem dX9_fires_114 : decode cX9_fires 114 = .ok (.iastore, 1) := by decide +kernel
theorem dX9_fires_115 : decode cX9_fires 115 = .ok (.aload_n 0, 1) := by decide +kernel
theorem dX9_fires_116 : decode cX9_fires 116 = .ok (.getfield 7, 3) := by decide +kernel
theorem dX9_fires_119 : decode cX9_fires 119 = .ok (.bipush 125, 2) := by decide +kernel
theorem dX9_fires_121 : decode cX9_fires 121 = .ok (.dup2, 1) := by decide +kernel
theorem dX9_fires_122 : decode cX9_fires 122 = .ok (.iaload, 1) := by decide +kernel
theorem dX9_fires_123 : decode cX9_fires 123 = .ok (.iconst 1, 1) := by decide +kernel
theorem dX9_fires_124 : decode cX9_fires 124 = .ok (.iadd, 1) := by decide +kernel
theorem dX9_fires_125 : decode cX9_fires 125 = .ok (.iastore, 1) := by decide +kernel
theorem dX9_fires_126 : decode cX9_fires 126 = .ok (.iinc 3 1, 3) := by decide +kernel
theorem dX9_fires_129 : decode cX9_fires 129 = .ok (.goto (-105), 3) := by decide +kernel
theorem dX9_fires_132 : decode cX9_fires 132 = .ok (.aload_n 0, 1) := by decide +kernel
theorem dX9_fires_133 : decode cX9_fires 133 = .ok (.bipush 6, 2) := by decide +kernel
theorem dX9_fires_135 : decode cX9_fires 135 = .ok (.invokevirtual 76, 3) := by decide +kernel
theorem dX9_fires_138 : decode cX9_fires 138 = .ok (.istore_n 3, 1) := by decide +kernel
theorem dX9_fires_139 : decode cX9_fires 139 = .ok (.iconst 0, 1) := by decide +kernel
theorem dX9_fires_140 : decode cX9_fires 140 = .ok (.istore 4, 2) := by decide +kernel
theorem dX9_fires_142 : decode cX9_fires 142 = .ok (.iload 4, 2) := by decide +kernel
theorem dX9_fires_144 : decode cX9_fires 144 = .ok (.bipush 6, 2) := by decide +kernel
theorem dX9_fires_146 : decode cX9_fires 146 = .ok (.if_icmp .ge 75, 3) := by decide +kernel
theorem dX9_fires_149 : decode cX9_fires 149 = .ok (.iload 4, 2) := by decide +kernel
theorem dX9_fires_151 : decode cX9_fires 151 = .ok (.invokestatic 60, 3) := by decide +kernel
theorem dX9_fires_154 : decode cX9_fires 154 = .ok (.iconst 1, 1) := by decide +kernel
theorem dX9_fires_155 : decode cX9_fires 155 = .ok (.iadd, 1) := by decide +kernel
theorem dX9_fires_156 : decode cX9_fires 156 = .ok (.istore 5, 2) := by decide +kernel
theorem dX9_fires_158 : decode cX9_fires 158 = .ok (.aload_n 0, 1) := by decide +kernel
theorem dX9_fires_159 : decode cX9_fires 159 = .ok (.getfield 7, 3) := by decide +kernel
theorem dX9_fires_162 : decode cX9_fires 162 = .ok (.iload 5, 2) := by decide +kernel
theorem dX9_fires_164 : decode cX9_fires 164 = .ok (.iaload, 1) := by decide +kernel
theorem dX9_fires_165 : decode cX9_fires 165 = .ok (.ifCond .ne 50, 3) := by decide +kernel
theorem dX9_fires_168 : decode cX9_fires 168 = .ok (.aload_n 0, 1) := by decide +kernel
theorem dX9_fires_169 : decode cX9_fires 169 = .ok (.iload 4, 2) := by decide +kernel
theorem dX9_fires_171 : decode cX9_fires 171 = .ok (.iconst 2, 1) := by decide +kernel
theorem dX9_fires_172 : decode cX9_fires 172 = .ok (.iconst 3, 1) := by decide +kernel
theorem dX9_fires_173 : decode cX9_fires 173 = .ok (.invokevirtual 70, 3) := by decide +kernel
theorem dX9_fires_176 : decode cX9_fires 176 = .ok (.ifCond .le 39, 3) := by decide +kernel
theorem dX9_fires_179 : decode cX9_fires 179 = .ok (.aload_n 0, 1) := by decide +kernel
theorem dX9_fires_180 : decode cX9_fires 180 = .ok (.iload 4, 2) := by decide +kernel
theorem dX9_fires_182 : decode cX9_fires 182 = .ok (.iload_n 3, 1) := by decide +kernel
theorem dX9_fires_183 : decode cX9_fires 183 = .ok (.invokevirtual 85, 3) := by decide +kernel
theorem dX9_fires_186 : decode cX9_fires 186 = .ok (.aload_n 0, 1) := by decide +kernel
theorem dX9_fires_187 : decode cX9_fires 187 = .ok (.getfield 7, 3) := by decide +kernel
theorem dX9_fires_190 : decode cX9_fires 190 = .ok (.bipush 116, 2) := by decide +kernel
theorem dX9_fires_192 : decode cX9_fires 192 = .ok (.iaload, 1) := by decide +kernel
theorem dX9_fires_193 : decode cX9_fires 193 = .ok (.if_icmp .le 22, 3) := by decide +kernel
theorem dX9_fires_196 : decode cX9_fires 196 = .ok (.aload_n 0, 1) := by decide +kernel
theorem dX9_fires_197 : decode cX9_fires 197 = .ok (.getfield 7, 3) := by decide +kernel
theorem dX9_fires_200 : decode cX9_fires 200 = .ok (.iload 5, 2) := by decide +kernel
theorem dX9_fires_202 : decode cX9_fires 202 = .ok (.iconst 1, 1) := by decide +kernel
theorem dX9_fires_203 : decode cX9_fires 203 = .ok (.iastore, 1) := by decide +kernel
theorem dX9_fires_204 : decode cX9_fires 204 = .ok (.aload_n 0, 1) := by decide +kernel
theorem dX9_fires_205 : decode cX9_fires 205 = .ok (.getfield 7, 3) := by decide +kernel
theorem dX9_fires_208 : decode cX9_fires 208 = .ok (.bipush 124, 2) := by decide +kernel
theorem dX9_fires_210 : decode cX9_fires 210 = .ok (.dup2, 1) := by decide +kernel
theorem dX9_fires_211 : decode cX9_fires 211 = .ok (.iaload, 1) := by decide +kernel
theorem dX9_fires_212 : decode cX9_fires 212 = .ok (.iconst 1, 1) := by decide +kernel
theorem dX9_fires_213 : decode cX9_fires 213 = .ok (.iadd, 1) := by decide +kernel
theorem dX9_fires_214 : decode cX9_fires 214 = .ok (.iastore, 1) := by decide +kernel
theorem dX9_fires_215 : decode cX9_fires 215 = .ok (.iinc 4 1, 3) := by decide +kernel
theorem dX9_fires_218 : decode cX9_fires 218 = .ok (.goto (-76), 3) := by decide +kernel
theorem dX9_fires_221 : decode cX9_fires 221 = .ok (.return_, 1) := by decide +kernel
theorem dX9_isHeat_0 : decode cX9_isHeat 0 = .ok (.iload_n 0, 1) := by decide +kernel
theorem dX9_isHeat_1 : decode cX9_isHeat 1 = .ok (.sipush 500, 3) := by decide +kernel
theorem dX9_isHeat_4 : decode cX9_isHeat 4 = .ok (.sipush 1200, 3) := by decide +kernel
theorem dX9_isHeat_7 : decode cX9_isHeat 7 = .ok (.invokestatic 32, 3) := by decide +kernel
theorem dX9_isHeat_10 : decode cX9_isHeat 10 = .ok (.ireturn, 1) := by decide +kernel
theorem dX9_fire_0 : decode cX9_fire 0 = .ok (.iload_n 1, 1) := by decide +kernel
theorem dX9_fire_1 : decode cX9_fire 1 = .ok (.invokestatic 111, 3) := by decide +kernel
theorem dX9_fire_4 : decode cX9_fire 4 = .ok (.ifCond .eq 13, 3) := by decide +kernel
theorem dX9_fire_7 : decode cX9_fire 7 = .ok (.iload_n 2, 1) := by decide +kernel
theorem dX9_fire_8 : decode cX9_fire 8 = .ok (.iconst 1, 1) := by decide +kernel
theorem dX9_fire_9 : decode cX9_fire 9 = .ok (.bipush 20, 2) := by decide +kernel
theorem dX9_fire_11 : decode cX9_fire 11 = .ok (.invokestatic 32, 3) := by decide +kernel
theorem dX9_fire_14 : decode cX9_fire 14 = .ok (.ifCond .ne 5, 3) := by decide +kernel
theorem dX9_fire_17 : decode cX9_fire 17 = .ok (.iconst (-1), 1) := by decide +kernel
theorem dX9_fire_18 : decode cX9_fire 18 = .ok (.ireturn, 1) := by decide +kernel
theorem dX9_fire_19 : decode cX9_fire 19 = .ok (.aload_n 0, 1) := by decide +kernel
theorem dX9_fire_20 : decode cX9_fire 20 = .ok (.getfield 7, 3) := by decide +kernel
theorem dX9_fire_23 : decode cX9_fire 23 = .ok (.bipush 117, 2) := by decide +kernel
theorem dX9_fire_25 : decode cX9_fire 25 = .ok (.iaload, 1) := by decide +kernel
theorem dX9_fire_26 : decode cX9_fire 26 = .ok (.sipush 1000, 3) := by decide +kernel
theorem dX9_fire_29 : decode cX9_fire 29 = .ok (.if_icmp .ne 6, 3) := by decide +kernel
theorem dX9_fire_32 : decode cX9_fire 32 = .ok (.bipush (-3), 2) := by decide +kernel
theorem dX9_fire_34 : decode cX9_fire 34 = .ok (.ireturn, 1) := by decide +kernel
theorem dX9_fire_35 : decode cX9_fire 35 = .ok (.aload_n 0, 1) := by decide +kernel
theorem dX9_fire_36 : decode cX9_fire 36 = .ok (.invokevirtual 36, 3) := by decide +kernel
theorem dX9_fire_39 : decode cX9_fire 39 = .ok (.aload_n 0, 1) := by decide +kernel
theorem dX9_fire_40 : decode cX9_fire 40 = .ok (.getfield 7, 3) := by decide +kernel
theorem dX9_fire_43 : decode cX9_fire 43 = .ok (.bipush 121, 2) := by decide +kernel
theorem dX9_fire_45 : decode cX9_fire 45 = .ok (.iaload, 1) := by decide +kernel
theorem dX9_fire_46 : decode cX9_fire 46 = .ok (.istore_n 3, 1) := by decide +kernel
theorem dX9_fire_47 : decode cX9_fire 47 = .ok (.aload_n 0, 1) := by decide +kernel
theorem dX9_fire_48 : decode cX9_fire 48 = .ok (.iload_n 1, 1) := by decide +kernel
theorem dX9_fire_49 : decode cX9_fire 49 = .ok (.iload_n 2, 1) := by decide +kernel
theorem dX9_fire_50 : decode cX9_fire 50 = .ok (.invokevirtual 114, 3) := by decide +kernel
theorem dX9_fire_53 : decode cX9_fire 53 = .ok (.aload_n 0, 1) := by decide +kernel
theorem dX9_fire_54 : decode cX9_fire 54 = .ok (.getfield 7, 3) := by decide +kernel
theorem dX9_fire_57 : decode cX9_fire 57 = .ok (.bipush 121, 2) := by decide +kernel
theorem dX9_fire_59 : decode cX9_fire 59 = .ok (.iaload, 1) := by decide +kernel
theorem dX9_fire_60 : decode cX9_fire 60 = .ok (.iload_n 3, 1) := by decide +kernel
theorem dX9_fire_61 : decode cX9_fire 61 = .ok (.isub, 1) := by decide +kernel
theorem dX9_fire_62 : decode cX9_fire 62 = .ok (.ireturn, 1) := by decide +kernel
theorem dX9_tries_0 : decode cX9_tries 0 = .ok (.iconst 0, 1) := by decide +kernel
theorem dX9_tries_1 : decode cX9_tries 1 = .ok (.istore_n 2, 1) := by decide +kernel
theorem dX9_tries_2 : decode cX9_tries 2 = .ok (.iload_n 2, 1) := by decide +kernel
theorem dX9_tries_3 : decode cX9_tries 3 = .ok (.sipush 150, 3) := by decide +kernel
theorem dX9_tries_6 : decode cX9_tries 6 = .ok (.if_icmp .ge 21, 3) := by decide +kernel
theorem dX9_tries_9 : decode cX9_tries 9 = .ok (.aload_n 0, 1) := by decide +kernel
theorem dX9_tries_10 : decode cX9_tries 10 = .ok (.getfield 16, 3) := by decide +kernel
theorem dX9_tries_13 : decode cX9_tries 13 = .ok (.iload_n 2, 1) := by decide +kernel
theorem dX9_tries_14 : decode cX9_tries 14 = .ok (.aload_n 0, 1) := by decide +kernel
theorem dX9_tries_15 : decode cX9_tries 15 = .ok (.getfield 7, 3) := by decide +kernel
theorem dX9_tries_18 : decode cX9_tries 18 = .ok (.iload_n 2, 1) := by decide +kernel
theorem dX9_tries_19 : decode cX9_tries 19 = .ok (.iaload, 1) := by decide +kernel
theorem dX9_tries_20 : decode cX9_tries 20 = .ok (.iastore, 1) := by decide +kernel
theorem dX9_tries_21 : decode cX9_tries 21 = .ok (.iinc 2 1, 3) := by decide +kernel
theorem dX9_tries_24 : decode cX9_tries 24 = .ok (.goto (-22), 3) := by decide +kernel
theorem dX9_tries_27 : decode cX9_tries 27 = .ok (.aload_n 0, 1) := by decide +kernel
theorem dX9_tries_28 : decode cX9_tries 28 = .ok (.iload_n 1, 1) := by decide +kernel
theorem dX9_tries_29 : decode cX9_tries 29 = .ok (.aload_n 0, 1) := by decide +kernel
theorem dX9_tries_30 : decode cX9_tries 30 = .ok (.getfield 7, 3) := by decide +kernel
theorem dX9_tries_33 : decode cX9_tries 33 = .ok (.bipush 114, 2) := by decide +kernel
theorem dX9_tries_35 : decode cX9_tries 35 = .ok (.iaload, 1) := by decide +kernel
theorem dX9_tries_36 : decode cX9_tries 36 = .ok (.invokevirtual 114, 3) := by decide +kernel
theorem dX9_tries_39 : decode cX9_tries 39 = .ok (.iconst 0, 1) := by decide +kernel
theorem dX9_tries_40 : decode cX9_tries 40 = .ok (.istore_n 2, 1) := by decide +kernel
theorem dX9_tries_41 : decode cX9_tries 41 = .ok (.iload_n 2, 1) := by decide +kernel
theorem dX9_tries_42 : decode cX9_tries 42 = .ok (.iconst 5, 1) := by decide +kernel
theorem dX9_tries_43 : decode cX9_tries 43 = .ok (.if_icmp .ge 71, 3) := by decide +kernel
theorem dX9_tries_46 : decode cX9_tries 46 = .ok (.bipush 117, 2) := by decide +kernel
theorem dX9_tries_48 : decode cX9_tries 48 = .ok (.iload_n 2, 1) := by decide +kernel
theorem dX9_tries_49 : decode cX9_tries 49 = .ok (.ifCond .ne 7, 3) := by decide +kernel
theorem dX9_tries_52 : decode cX9_tries 52 = .ok (.iconst 4, 1) := by decide +kernel
theorem dX9_tries_53 : decode cX9_tries 53 = .ok (.goto 34, 3) := by decide +kernel
theorem dX9_tries_56 : decode cX9_tries 56 = .ok (.iload_n 2, 1) := by decide +kernel
theorem dX9_tries_57 : decode cX9_tries 57 = .ok (.iconst 1, 1) := by decide +kernel
theorem dX9_tries_58 : decode cX9_tries 58 = .ok (.if_icmp .ne 8, 3) := by decide +kernel
theorem dX9_tries_61 : decode cX9_tries 61 = .ok (.bipush 6, 2) := by decide +kernel
theorem dX9_tries_63 : decode cX9_tries 63 = .ok (.goto 24, 3) := by decide +kernel
theorem dX9_tries_66 : decode cX9_tries 66 = .ok (.iload_n 2, 1) := by decide +kernel
theorem dX9_tries_67 : decode cX9_tries 67 = .ok (.iconst 2, 1) := by decide +kernel
theorem dX9_tries_68 : decode cX9_tries 68 = .ok (.if_icmp .ne 7, 3) := by decide +kernel
theorem dX9_tries_71 : decode cX9_tries 71 = .ok (.iconst 5, 1) := by decide +kernel
theorem dX9_tries_72 : decode cX9_tries 72 = .ok (.goto 15, 3) := by decide +kernel
theorem dX9_tries_75 : decode cX9_tries 75 = .ok (.iload_n 2, 1) := by decide +kernel
theorem dX9_tries_76 : decode cX9_tries 76 = .ok (.iconst 3, 1) := by decide +kernel
theorem dX9_tries_77 : decode cX9_tries 77 = .ok (.if_icmp .ne 8, 3) := by decide +kernel
theorem dX9_tries_80 : decode cX9_tries 80 = .ok (.bipush 7, 2) := by decide +kernel
theorem dX9_tries_82 : decode cX9_tries 82 = .ok (.goto 5, 3) := by decide +kernel
theorem dX9_tries_85 : decode cX9_tries 85 = .ok (.bipush 8, 2) := by decide +kernel
theorem dX9_tries_87 : decode cX9_tries 87 = .ok (.iadd, 1) := by decide +kernel
theorem dX9_tries_88 : decode cX9_tries 88 = .ok (.istore_n 3, 1) := by decide +kernel
theorem dX9_tries_89 : decode cX9_tries 89 = .ok (.aload_n 0, 1) := by decide +kernel
theorem dX9_tries_90 : decode cX9_tries 90 = .ok (.getfield 22, 3) := by decide +kernel
theorem dX9_tries_93 : decode cX9_tries 93 = .ok (.iload_n 2, 1) := by decide +kernel
theorem dX9_tries_94 : decode cX9_tries 94 = .ok (.aload_n 0, 1) := by decide +kernel
theorem dX9_tries_95 : decode cX9_tries 95 = .ok (.getfield 7, 3) := by decide +kernel
theorem dX9_tries_98 : decode cX9_tries 98 = .ok (.iload_n 3, 1) := by decide +kernel
theorem dX9_tries_99 : decode cX9_tries 99 = .ok (.iaload, 1) := by decide +kernel
theorem dX9_tries_100 : decode cX9_tries 100 = .ok (.aload_n 0, 1) := by decide +kernel
theorem dX9_tries_101 : decode cX9_tries 101 = .ok (.getfield 16, 3) := by decide +kernel
theorem dX9_tries_104 : decode cX9_tries 104 = .ok (.iload_n 3, 1) := by decide +kernel
theorem dX9_tries_105 : decode cX9_tries 105 = .ok (.iaload, 1) := by decide +kernel
theorem dX9_tries_106 : decode cX9_tries 106 = .ok (.isub, 1) := by decide +kernel
theorem dX9_tries_107 : decode cX9_tries 107 = .ok (.iastore, 1) := by decide +kernel
theorem dX9_tries_108 : decode cX9_tries 108 = .ok (.iinc 2 1, 3) := by decide +kernel
theorem dX9_tries_111 : decode cX9_tries 111 = .ok (.goto (-70), 3) := by decide +kernel
theorem dX9_tries_114 : decode cX9_tries 114 = .ok (.iconst 0, 1) := by decide +kernel
theorem dX9_tries_115 : decode cX9_tries 115 = .ok (.istore_n 2, 1) := by decide +kernel
theorem dX9_tries_116 : decode cX9_tries 116 = .ok (.iload_n 2, 1) := by decide +kernel
theorem dX9_tries_117 : decode cX9_tries 117 = .ok (.sipush 150, 3) := by decide +kernel
theorem dX9_tries_120 : decode cX9_tries 120 = .ok (.if_icmp .ge 21, 3) := by decide +kernel
theorem dX9_tries_123 : decode cX9_tries 123 = .ok (.aload_n 0, 1) := by decide +kernel
theorem dX9_tries_124 : decode cX9_tries 124 = .ok (.getfield 7, 3) := by decide +kernel
theorem dX9_tries_127 : decode cX9_tries 127 = .ok (.iload_n 2, 1) := by decide +kernel
theorem dX9_tries_128 : decode cX9_tries 128 = .ok (.aload_n 0, 1) := by decide +kernel
theorem dX9_tries_129 : decode cX9_tries 129 = .ok (.getfield 16, 3) := by decide +kernel
theorem dX9_tries_132 : decode cX9_tries 132 = .ok (.iload_n 2, 1) := by decide +kernel
theorem dX9_tries_133 : decode cX9_tries 133 = .ok (.iaload, 1) := by decide +kernel
theorem dX9_tries_134 : decode cX9_tries 134 = .ok (.iastore, 1) := by decide +kernel
theorem dX9_tries_135 : decode cX9_tries 135 = .ok (.iinc 2 1, 3) := by decide +kernel
theorem dX9_tries_138 : decode cX9_tries 138 = .ok (.goto (-22), 3) := by decide +kernel
theorem dX9_tries_141 : decode cX9_tries 141 = .ok (.return_, 1) := by decide +kernel
theorem dX9_ifFired_0 : decode cX9_ifFired 0 = .ok (.iload_n 1, 1) := by decide +kernel
theorem dX9_ifFired_1 : decode cX9_ifFired 1 = .ok (.invokestatic 111, 3) := by decide +kernel
theorem dX9_ifFired_4 : decode cX9_ifFired 4 = .ok (.ifCond .eq 12, 3) := by decide +kernel
theorem dX9_ifFired_7 : decode cX9_ifFired 7 = .ok (.iload_n 2, 1) := by decide +kernel
theorem dX9_ifFired_8 : decode cX9_ifFired 8 = .ok (.iconst 0, 1) := by decide +kernel
theorem dX9_ifFired_9 : decode cX9_ifFired 9 = .ok (.iconst 4, 1) := by decide +kernel
theorem dX9_ifFired_10 : decode cX9_ifFired 10 = .ok (.invokestatic 32, 3) := by decide +kernel
theorem dX9_ifFired_13 : decode cX9_ifFired 13 = .ok (.ifCond .ne 5, 3) := by decide +kernel
theorem dX9_ifFired_16 : decode cX9_ifFired 16 = .ok (.iconst (-1), 1) := by decide +kernel
theorem dX9_ifFired_17 : decode cX9_ifFired 17 = .ok (.ireturn, 1) := by decide +kernel
theorem dX9_ifFired_18 : decode cX9_ifFired 18 = .ok (.aload_n 0, 1) := by decide +kernel
theorem dX9_ifFired_19 : decode cX9_ifFired 19 = .ok (.iload_n 1, 1) := by decide +kernel
theorem dX9_ifFired_20 : decode cX9_ifFired 20 = .ok (.invokevirtual 118, 3) := by decide +kernel
theorem dX9_ifFired_23 : decode cX9_ifFired 23 = .ok (.aload_n 0, 1) := by decide +kernel
theorem dX9_ifFired_24 : decode cX9_ifFired 24 = .ok (.getfield 22, 3) := by decide +kernel
theorem dX9_ifFired_27 : decode cX9_ifFired 27 = .ok (.iload_n 2, 1) := by decide +kernel
theorem dX9_ifFired_28 : decode cX9_ifFired 28 = .ok (.iaload, 1) := by decide +kernel
theorem dX9_ifFired_29 : decode cX9_ifFired 29 = .ok (.ireturn, 1) := by decide +kernel
theorem dX9_bestHeat_0 : decode cX9_bestHeat 0 = .ok (.sipush 500, 3) := by decide +kernel
theorem dX9_bestHeat_3 : decode cX9_bestHeat 3 = .ok (.istore_n 1, 1) := by decide +kernel
theorem dX9_bestHeat_4 : decode cX9_bestHeat 4 = .ok (.iconst (-1), 1) := by decide +kernel
theorem dX9_bestHeat_5 : decode cX9_bestHeat 5 = .ok (.istore_n 2, 1) := by decide +kernel
theorem dX9_bestHeat_6 : decode cX9_bestHeat 6 = .ok (.iconst 0, 1) := by decide +kernel
theorem dX9_bestHeat_7 : decode cX9_bestHeat 7 = .ok (.istore_n 3, 1) := by decide +kernel
theorem dX9_bestHeat_8 : decode cX9_bestHeat 8 = .ok (.sipush 500, 3) := by decide +kernel
theorem dX9_bestHeat_11 : decode cX9_bestHeat 11 = .ok (.istore 4, 2) := by decide +kernel
theorem dX9_bestHeat_13 : decode cX9_bestHeat 13 = .ok (.iload 4, 2) := by decide +kernel
theorem dX9_bestHeat_15 : decode cX9_bestHeat 15 = .ok (.sipush 1200, 3) := by decide +kernel
theorem dX9_bestHeat_18 : decode cX9_bestHeat 18 = .ok (.if_icmp .gt 71, 3) := by decide +kernel
theorem dX9_bestHeat_21 : decode cX9_bestHeat 21 = .ok (.aload_n 0, 1) := by decide +kernel
theorem dX9_bestHeat_22 : decode cX9_bestHeat 22 = .ok (.iload 4, 2) := by decide +kernel
theorem dX9_bestHeat_24 : decode cX9_bestHeat 24 = .ok (.invokevirtual 118, 3) := by decide +kernel
theorem dX9_bestHeat_27 : decode cX9_bestHeat 27 = .ok (.aload_n 0, 1) := by decide +kernel
theorem dX9_bestHeat_28 : decode cX9_bestHeat 28 = .ok (.getfield 22, 3) := by decide +kernel
theorem dX9_bestHeat_31 : decode cX9_bestHeat 31 = .ok (.iconst 1, 1) := by decide +kernel
theorem dX9_bestHeat_32 : decode cX9_bestHeat 32 = .ok (.iaload, 1) := by decide +kernel
theorem dX9_bestHeat_33 : decode cX9_bestHeat 33 = .ok (.ifCond .ne 50, 3) := by decide +kernel
theorem dX9_bestHeat_36 : decode cX9_bestHeat 36 = .ok (.aload_n 0, 1) := by decide +kernel
theorem dX9_bestHeat_37 : decode cX9_bestHeat 37 = .ok (.getfield 22, 3) := by decide +kernel
theorem dX9_bestHeat_40 : decode cX9_bestHeat 40 = .ok (.iconst 0, 1) := by decide +kernel
theorem dX9_bestHeat_41 : decode cX9_bestHeat 41 = .ok (.iaload, 1) := by decide +kernel
theorem dX9_bestHeat_42 : decode cX9_bestHeat 42 = .ok (.iload_n 2, 1) := by decide +kernel
theorem dX9_bestHeat_43 : decode cX9_bestHeat 43 = .ok (.if_icmp .gt 23, 3) := by decide +kernel
theorem dX9_bestHeat_46 : decode cX9_bestHeat 46 = .ok (.aload_n 0, 1) := by decide +kernel
theorem dX9_bestHeat_47 : decode cX9_bestHeat 47 = .ok (.getfield 22, 3) := by decide +kernel
theorem dX9_bestHeat_50 : decode cX9_bestHeat 50 = .ok (.iconst 0, 1) := by decide +kernel
theorem dX9_bestHeat_51 : decode cX9_bestHeat 51 = .ok (.iaload, 1) := by decide +kernel
theorem dX9_bestHeat_52 : decode cX9_bestHeat 52 = .ok (.iload_n 2, 1) := by decide +kernel
theorem dX9_bestHeat_53 : decode cX9_bestHeat 53 = .ok (.if_icmp .ne 30, 3) := by decide +kernel
theorem dX9_bestHeat_56 : decode cX9_bestHeat 56 = .ok (.aload_n 0, 1) := by decide +kernel
theorem dX9_bestHeat_57 : decode cX9_bestHeat 57 = .ok (.getfield 22, 3) := by decide +kernel
theorem dX9_bestHeat_60 : decode cX9_bestHeat 60 = .ok (.iconst 2, 1) := by decide +kernel
theorem dX9_bestHeat_61 : decode cX9_bestHeat 61 = .ok (.iaload, 1) := by decide +kernel
theorem dX9_bestHeat_62 : decode cX9_bestHeat 62 = .ok (.iload_n 3, 1) := by decide +kernel
theorem dX9_bestHeat_63 : decode cX9_bestHeat 63 = .ok (.if_icmp .ge 20, 3) := by decide +kernel
theorem dX9_bestHeat_66 : decode cX9_bestHeat 66 = .ok (.iload 4, 2) := by decide +kernel
theorem dX9_bestHeat_68 : decode cX9_bestHeat 68 = .ok (.istore_n 1, 1) := by decide +kernel
theorem dX9_bestHeat_69 : decode cX9_bestHeat 69 = .ok (.aload_n 0, 1) := by decide +kernel
theorem dX9_bestHeat_70 : decode cX9_bestHeat 70 = .ok (.getfield 22, 3) := by decide +kernel
theorem dX9_bestHeat_73 : decode cX9_bestHeat 73 = .ok (.iconst 0, 1) := by decide +kernel
theorem dX9_bestHeat_74 : decode cX9_bestHeat 74 = .ok (.iaload, 1) := by decide +kernel
theorem dX9_bestHeat_75 : decode cX9_bestHeat 75 = .ok (.istore_n 2, 1) := by decide +kernel
theorem dX9_bestHeat_76 : decode cX9_bestHeat 76 = .ok (.aload_n 0, 1) := by decide +kernel
theorem dX9_bestHeat_77 : decode cX9_bestHeat 77 = .ok (.getfield 22, 3) := by decide +kernel
theorem dX9_bestHeat_80 : decode cX9_bestHeat 80 = .ok (.iconst 2, 1) := by decide +kernel
theorem dX9_bestHeat_81 : decode cX9_bestHeat 81 = .ok (.iaload, 1) := by decide +kernel
theorem dX9_bestHeat_82 : decode cX9_bestHeat 82 = .ok (.istore_n 3, 1) := by decide +kernel
theorem dX9_bestHeat_83 : decode cX9_bestHeat 83 = .ok (.iinc 4 1, 3) := by decide +kernel
theorem dX9_bestHeat_86 : decode cX9_bestHeat 86 = .ok (.goto (-73), 3) := by decide +kernel
theorem dX9_bestHeat_89 : decode cX9_bestHeat 89 = .ok (.iload_n 1, 1) := by decide +kernel
theorem dX9_bestHeat_90 : decode cX9_bestHeat 90 = .ok (.ireturn, 1) := by decide +kernel
theorem dX9_isFront_0 : decode cX9_isFront 0 = .ok (.iload_n 0, 1) := by decide +kernel
theorem dX9_isFront_1 : decode cX9_isFront 1 = .ok (.iconst 0, 1) := by decide +kernel
theorem dX9_isFront_2 : decode cX9_isFront 2 = .ok (.iconst 5, 1) := by decide +kernel
theorem dX9_isFront_3 : decode cX9_isFront 3 = .ok (.invokestatic 32, 3) := by decide +kernel
theorem dX9_isFront_6 : decode cX9_isFront 6 = .ok (.ireturn, 1) := by decide +kernel
theorem dX9_wish_0 : decode cX9_wish 0 = .ok (.iload_n 1, 1) := by decide +kernel
theorem dX9_wish_1 : decode cX9_wish 1 = .ok (.invokestatic 122, 3) := by decide +kernel
theorem dX9_wish_4 : decode cX9_wish 4 = .ok (.ifCond .eq 16, 3) := by decide +kernel
theorem dX9_wish_7 : decode cX9_wish 7 = .ok (.iload_n 2, 1) := by decide +kernel
theorem dX9_wish_8 : decode cX9_wish 8 = .ok (.iconst (-1), 1) := by decide +kernel
theorem dX9_wish_9 : decode cX9_wish 9 = .ok (.if_icmp .eq 13, 3) := by decide +kernel
theorem dX9_wish_12 : decode cX9_wish 12 = .ok (.aload_n 0, 1) := by decide +kernel
theorem dX9_wish_13 : decode cX9_wish 13 = .ok (.iload_n 2, 1) := by decide +kernel
theorem dX9_wish_14 : decode cX9_wish 14 = .ok (.invokevirtual 47, 3) := by decide +kernel
theorem dX9_wish_17 : decode cX9_wish 17 = .ok (.ifCond .ne 5, 3) := by decide +kernel
theorem dX9_wish_20 : decode cX9_wish 20 = .ok (.iconst (-1), 1) := by decide +kernel
theorem dX9_wish_21 : decode cX9_wish 21 = .ok (.ireturn, 1) := by decide +kernel
theorem dX9_wish_22 : decode cX9_wish 22 = .ok (.bipush 126, 2) := by decide +kernel
theorem dX9_wish_24 : decode cX9_wish 24 = .ok (.iconst 4, 1) := by decide +kernel
theorem dX9_wish_25 : decode cX9_wish 25 = .ok (.iload_n 1, 1) := by decide +kernel
theorem dX9_wish_26 : decode cX9_wish 26 = .ok (.imul, 1) := by decide +kernel
theorem dX9_wish_27 : decode cX9_wish 27 = .ok (.iadd, 1) := by decide +kernel
theorem dX9_wish_28 : decode cX9_wish 28 = .ok (.istore_n 3, 1) := by decide +kernel
theorem dX9_wish_29 : decode cX9_wish 29 = .ok (.iload_n 2, 1) := by decide +kernel
theorem dX9_wish_30 : decode cX9_wish 30 = .ok (.ifCond .lt 16, 3) := by decide +kernel
theorem dX9_wish_33 : decode cX9_wish 33 = .ok (.aload_n 0, 1) := by decide +kernel
theorem dX9_wish_34 : decode cX9_wish 34 = .ok (.getfield 7, 3) := by decide +kernel
theorem dX9_wish_37 : decode cX9_wish 37 = .ok (.iload_n 3, 1) := by decide +kernel
theorem dX9_wish_38 : decode cX9_wish 38 = .ok (.iaload, 1) := by decide +kernel
theorem dX9_wish_39 : decode cX9_wish 39 = .ok (.iconst 3, 1) := by decide +kernel
theorem dX9_wish_40 : decode cX9_wish 40 = .ok (.if_icmp .ne 6, 3) := by decide +kernel
theorem dX9_wish_43 : decode cX9_wish 43 = .ok (.bipush (-3), 2) := by decide +kernel
theorem dX9_wish_45 : decode cX9_wish 45 = .ok (.ireturn, 1) := by decide +kernel
theorem dX9_wish_46 : decode cX9_wish 46 = .ok (.aload_n 0, 1) := by decide +kernel
theorem dX9_wish_47 : decode cX9_wish 47 = .ok (.invokevirtual 36, 3) := by decide +kernel
theorem dX9_wish_50 : decode cX9_wish 50 = .ok (.iload_n 2, 1) := by decide +kernel
theorem dX9_wish_51 : decode cX9_wish 51 = .ok (.ifCond .ge 13, 3) := by decide +kernel
theorem dX9_wish_54 : decode cX9_wish 54 = .ok (.aload_n 0, 1) := by decide +kernel
theorem dX9_wish_55 : decode cX9_wish 55 = .ok (.getfield 7, 3) := by decide +kernel
theorem dX9_wish_58 : decode cX9_wish 58 = .ok (.iload_n 3, 1) := by decide +kernel
theorem dX9_wish_59 : decode cX9_wish 59 = .ok (.iconst 0, 1) := by decide +kernel
theorem dX9_wish_60 : decode cX9_wish 60 = .ok (.iastore, 1) := by decide +kernel
theorem dX9_wish_61 : decode cX9_wish 61 = .ok (.goto 29, 3) := by decide +kernel
theorem dX9_wish_64 : decode cX9_wish 64 = .ok (.aload_n 0, 1) := by decide +kernel
theorem dX9_wish_65 : decode cX9_wish 65 = .ok (.getfield 7, 3) := by decide +kernel
theorem dX9_wish_68 : decode cX9_wish 68 = .ok (.iload_n 3, 1) := by decide +kernel
theorem dX9_wish_69 : decode cX9_wish 69 = .ok (.iconst 1, 1) := by decide +kernel
theorem dX9_wish_70 : decode cX9_wish 70 = .ok (.iadd, 1) := by decide +kernel
theorem dX9_wish_71 : decode cX9_wish 71 = .ok (.aload_n 0, 1) := by decide +kernel
theorem dX9_wish_72 : decode cX9_wish 72 = .ok (.getfield 7, 3) := by decide +kernel
theorem dX9_wish_75 : decode cX9_wish 75 = .ok (.iload_n 3, 1) := by decide +kernel
theorem dX9_wish_76 : decode cX9_wish 76 = .ok (.iaload, 1) := by decide +kernel
theorem dX9_wish_77 : decode cX9_wish 77 = .ok (.iadd, 1) := by decide +kernel
theorem dX9_wish_78 : decode cX9_wish 78 = .ok (.iload_n 2, 1) := by decide +kernel
theorem dX9_wish_79 : decode cX9_wish 79 = .ok (.iastore, 1) := by decide +kernel
theorem dX9_wish_80 : decode cX9_wish 80 = .ok (.aload_n 0, 1) := by decide +kernel
theorem dX9_wish_81 : decode cX9_wish 81 = .ok (.getfield 7, 3) := by decide +kernel
theorem dX9_wish_84 : decode cX9_wish 84 = .ok (.iload_n 3, 1) := by decide +kernel
theorem dX9_wish_85 : decode cX9_wish 85 = .ok (.dup2, 1) := by decide +kernel
theorem dX9_wish_86 : decode cX9_wish 86 = .ok (.iaload, 1) := by decide +kernel
theorem dX9_wish_87 : decode cX9_wish 87 = .ok (.iconst 1, 1) := by decide +kernel
theorem dX9_wish_88 : decode cX9_wish 88 = .ok (.iadd, 1) := by decide +kernel
theorem dX9_wish_89 : decode cX9_wish 89 = .ok (.iastore, 1) := by decide +kernel
theorem dX9_wish_90 : decode cX9_wish 90 = .ok (.aload_n 0, 1) := by decide +kernel
theorem dX9_wish_91 : decode cX9_wish 91 = .ok (.getfield 7, 3) := by decide +kernel
theorem dX9_wish_94 : decode cX9_wish 94 = .ok (.iload_n 3, 1) := by decide +kernel
theorem dX9_wish_95 : decode cX9_wish 95 = .ok (.iaload, 1) := by decide +kernel
theorem dX9_wish_96 : decode cX9_wish 96 = .ok (.ireturn, 1) := by decide +kernel
theorem dX9_wished_0 : decode cX9_wished 0 = .ok (.iload_n 1, 1) := by decide +kernel
theorem dX9_wished_1 : decode cX9_wished 1 = .ok (.invokestatic 122, 3) := by decide +kernel
theorem dX9_wished_4 : decode cX9_wished 4 = .ok (.ifCond .eq 7, 3) := by decide +kernel
theorem dX9_wished_7 : decode cX9_wished 7 = .ok (.iload_n 2, 1) := by decide +kernel
theorem dX9_wished_8 : decode cX9_wished 8 = .ok (.ifCond .ge 5, 3) := by decide +kernel
theorem dX9_wished_11 : decode cX9_wished 11 = .ok (.iconst (-1), 1) := by decide +kernel
theorem dX9_wished_12 : decode cX9_wished 12 = .ok (.ireturn, 1) := by decide +kernel
theorem dX9_wished_13 : decode cX9_wished 13 = .ok (.iload_n 2, 1) := by decide +kernel
theorem dX9_wished_14 : decode cX9_wished 14 = .ok (.aload_n 0, 1) := by decide +kernel
theorem dX9_wished_15 : decode cX9_wished 15 = .ok (.getfield 7, 3) := by decide +kernel
theorem dX9_wished_18 : decode cX9_wished 18 = .ok (.bipush 126, 2) := by decide +kernel
theorem dX9_wished_20 : decode cX9_wished 20 = .ok (.iconst 4, 1) := by decide +kernel
theorem dX9_wished_21 : decode cX9_wished 21 = .ok (.iload_n 1, 1) := by decide +kernel
theorem dX9_wished_22 : decode cX9_wished 22 = .ok (.imul, 1) := by decide +kernel
theorem dX9_wished_23 : decode cX9_wished 23 = .ok (.iadd, 1) := by decide +kernel
theorem dX9_wished_24 : decode cX9_wished 24 = .ok (.iaload, 1) := by decide +kernel
theorem dX9_wished_25 : decode cX9_wished 25 = .ok (.if_icmp .lt 8, 3) := by decide +kernel
theorem dX9_wished_28 : decode cX9_wished 28 = .ok (.bipush (-4), 2) := by decide +kernel
theorem dX9_wished_30 : decode cX9_wished 30 = .ok (.goto 18, 3) := by decide +kernel
theorem dX9_wished_33 : decode cX9_wished 33 = .ok (.aload_n 0, 1) := by decide +kernel
theorem dX9_wished_34 : decode cX9_wished 34 = .ok (.getfield 7, 3) := by decide +kernel
theorem dX9_wished_37 : decode cX9_wished 37 = .ok (.bipush 126, 2) := by decide +kernel
theorem dX9_wished_39 : decode cX9_wished 39 = .ok (.iconst 4, 1) := by decide +kernel
theorem dX9_wished_40 : decode cX9_wished 40 = .ok (.iload_n 1, 1) := by decide +kernel
theorem dX9_wished_41 : decode cX9_wished 41 = .ok (.imul, 1) := by decide +kernel
theorem dX9_wished_42 : decode cX9_wished 42 = .ok (.iadd, 1) := by decide +kernel
theorem dX9_wished_43 : decode cX9_wished 43 = .ok (.iconst 1, 1) := by decide +kernel
theorem dX9_wished_44 : decode cX9_wished 44 = .ok (.iadd, 1) := by decide +kernel
theorem dX9_wished_45 : decode cX9_wished 45 = .ok (.iload_n 2, 1) := by decide +kernel
theorem dX9_wished_46 : decode cX9_wished 46 = .ok (.iadd, 1) := by decide +kernel
theorem dX9_wished_47 : decode cX9_wished 47 = .ok (.iaload, 1) := by decide +kernel
theorem dX9_wished_48 : decode cX9_wished 48 = .ok (.ireturn, 1) := by decide +kernel
theorem dX9_digit_0 : decode cX9_digit 0 = .ok (.iload_n 0, 1) := by decide +kernel
theorem dX9_digit_1 : decode cX9_digit 1 = .ok (.iconst 2, 1) := by decide +kernel
theorem dX9_digit_2 : decode cX9_digit 2 = .ok (.iload_n 1, 1) := by decide +kernel
theorem dX9_digit_3 : decode cX9_digit 3 = .ok (.imul, 1) := by decide +kernel
theorem dX9_digit_4 : decode cX9_digit 4 = .ok (.ishr, 1) := by decide +kernel
theorem dX9_digit_5 : decode cX9_digit 5 = .ok (.iconst 3, 1) := by decide +kernel
theorem dX9_digit_6 : decode cX9_digit 6 = .ok (.iand, 1) := by decide +kernel
theorem dX9_digit_7 : decode cX9_digit 7 = .ok (.ireturn, 1) := by decide +kernel
theorem dX9_cap_0 : decode cX9_cap 0 = .ok (.sipush 1200, 3) := by decide +kernel
theorem dX9_cap_3 : decode cX9_cap 3 = .ok (.istore_n 2, 1) := by decide +kernel
theorem dX9_cap_4 : decode cX9_cap 4 = .ok (.iconst 0, 1) := by decide +kernel
theorem dX9_cap_5 : decode cX9_cap 5 = .ok (.istore_n 3, 1) := by decide +kernel
theorem dX9_cap_6 : decode cX9_cap 6 = .ok (.iload_n 3, 1) := by decide +kernel
theorem dX9_cap_7 : decode cX9_cap 7 = .ok (.bipush 6, 2) := by decide +kernel
theorem dX9_cap_9 : decode cX9_cap 9 = .ok (.if_icmp .ge 63, 3) := by decide +kernel
theorem dX9_cap_12 : decode cX9_cap 12 = .ok (.iconst 0, 1) := by decide +kernel
theorem dX9_cap_13 : decode cX9_cap 13 = .ok (.istore 4, 2) := by decide +kernel
theorem dX9_cap_15 : decode cX9_cap 15 = .ok (.iload 4, 2) := by decide +kernel
theorem dX9_cap_17 : decode cX9_cap 17 = .ok (.iload_n 1, 1) := by decide +kernel
theorem dX9_cap_18 : decode cX9_cap 18 = .ok (.iload_n 3, 1) := by decide +kernel
theorem dX9_cap_19 : decode cX9_cap 19 = .ok (.invokestatic 125, 3) := by decide +kernel
theorem dX9_cap_22 : decode cX9_cap 22 = .ok (.if_icmp .ge 44, 3) := by decide +kernel
theorem dX9_cap_25 : decode cX9_cap 25 = .ok (.aload_n 0, 1) := by decide +kernel
theorem dX9_cap_26 : decode cX9_cap 26 = .ok (.aload_n 0, 1) := by decide +kernel
theorem dX9_cap_27 : decode cX9_cap 27 = .ok (.getfield 7, 3) := by decide +kernel
theorem dX9_cap_30 : decode cX9_cap 30 = .ok (.bipush 126, 2) := by decide +kernel
theorem dX9_cap_32 : decode cX9_cap 32 = .ok (.iconst 4, 1) := by decide +kernel
theorem dX9_cap_33 : decode cX9_cap 33 = .ok (.iload_n 3, 1) := by decide +kernel
theorem dX9_cap_34 : decode cX9_cap 34 = .ok (.imul, 1) := by decide +kernel
theorem dX9_cap_35 : decode cX9_cap 35 = .ok (.iadd, 1) := by decide +kernel
theorem dX9_cap_36 : decode cX9_cap 36 = .ok (.iconst 1, 1) := by decide +kernel
theorem dX9_cap_37 : decode cX9_cap 37 = .ok (.iadd, 1) := by decide +kernel
theorem dX9_cap_38 : decode cX9_cap 38 = .ok (.iload 4, 2) := by decide +kernel
theorem dX9_cap_40 : decode cX9_cap 40 = .ok (.iadd, 1) := by decide +kernel
theorem dX9_cap_41 : decode cX9_cap 41 = .ok (.iaload, 1) := by decide +kernel
theorem dX9_cap_42 : decode cX9_cap 42 = .ok (.invokevirtual 82, 3) := by decide +kernel
theorem dX9_cap_45 : decode cX9_cap 45 = .ok (.istore 5, 2) := by decide +kernel
theorem dX9_cap_47 : decode cX9_cap 47 = .ok (.iload 5, 2) := by decide +kernel
theorem dX9_cap_49 : decode cX9_cap 49 = .ok (.iload_n 2, 1) := by decide +kernel
theorem dX9_cap_50 : decode cX9_cap 50 = .ok (.if_icmp .ge 8, 3) := by decide +kernel
theorem dX9_cap_53 : decode cX9_cap 53 = .ok (.iload 5, 2) := by decide +kernel
theorem dX9_cap_55 : decode cX9_cap 55 = .ok (.goto 4, 3) := by decide +kernel
theorem dX9_cap_58 : decode cX9_cap 58 = .ok (.iload_n 2, 1) := by decide +kernel
theorem dX9_cap_59 : decode cX9_cap 59 = .ok (.istore_n 2, 1) := by decide +kernel
theorem dX9_cap_60 : decode cX9_cap 60 = .ok (.iinc 4 1, 3) := by decide +kernel
theorem dX9_cap_63 : decode cX9_cap 63 = .ok (.goto (-48), 3) := by decide +kernel
theorem dX9_cap_66 : decode cX9_cap 66 = .ok (.iinc 3 1, 3) := by decide +kernel
theorem dX9_cap_69 : decode cX9_cap 69 = .ok (.goto (-63), 3) := by decide +kernel
theorem dX9_cap_72 : decode cX9_cap 72 = .ok (.iload_n 2, 1) := by decide +kernel
theorem dX9_cap_73 : decode cX9_cap 73 = .ok (.ireturn, 1) := by decide +kernel
theorem dX9_behind_0 : decode cX9_behind 0 = .ok (.iload_n 1, 1) := by decide +kernel
theorem dX9_behind_1 : decode cX9_behind 1 = .ok (.istore 4, 2) := by decide +kernel
theorem dX9_behind_3 : decode cX9_behind 3 = .ok (.iconst 0, 1) := by decide +kernel
theorem dX9_behind_4 : decode cX9_behind 4 = .ok (.istore 5, 2) := by decide +kernel
theorem dX9_behind_6 : decode cX9_behind 6 = .ok (.iload_n 3, 1) := by decide +kernel
theorem dX9_behind_7 : decode cX9_behind 7 = .ok (.istore 6, 2) := by decide +kernel
theorem dX9_behind_9 : decode cX9_behind 9 = .ok (.iconst 0, 1) := by decide +kernel
theorem dX9_behind_10 : decode cX9_behind 10 = .ok (.istore 7, 2) := by decide +kernel
theorem dX9_behind_12 : decode cX9_behind 12 = .ok (.iload 7, 2) := by decide +kernel
theorem dX9_behind_14 : decode cX9_behind 14 = .ok (.bipush 6, 2) := by decide +kernel
theorem dX9_behind_16 : decode cX9_behind 16 = .ok (.if_icmp .ge 124, 3) := by decide +kernel
theorem dX9_behind_19 : decode cX9_behind 19 = .ok (.iload_n 2, 1) := by decide +kernel
theorem dX9_behind_20 : decode cX9_behind 20 = .ok (.iload 7, 2) := by decide +kernel
theorem dX9_behind_22 : decode cX9_behind 22 = .ok (.ishr, 1) := by decide +kernel
theorem dX9_behind_23 : decode cX9_behind 23 = .ok (.iconst 1, 1) := by decide +kernel
theorem dX9_behind_24 : decode cX9_behind 24 = .ok (.iand, 1) := by decide +kernel
theorem dX9_behind_25 : decode cX9_behind 25 = .ok (.iconst 1, 1) := by decide +kernel
theorem dX9_behind_26 : decode cX9_behind 26 = .ok (.if_icmp .ne 108, 3) := by decide +kernel
theorem dX9_behind_29 : decode cX9_behind 29 = .ok (.iload_n 1, 1) := by decide +kernel
theorem dX9_behind_30 : decode cX9_behind 30 = .ok (.iload 7, 2) := by decide +kernel
theorem dX9_behind_32 : decode cX9_behind 32 = .ok (.invokestatic 125, 3) := by decide +kernel
theorem dX9_behind_35 : decode cX9_behind 35 = .ok (.aload_n 0, 1) := by decide +kernel
theorem dX9_behind_36 : decode cX9_behind 36 = .ok (.getfield 7, 3) := by decide +kernel
theorem dX9_behind_39 : decode cX9_behind 39 = .ok (.bipush 126, 2) := by decide +kernel
theorem dX9_behind_41 : decode cX9_behind 41 = .ok (.iconst 4, 1) := by decide +kernel
theorem dX9_behind_42 : decode cX9_behind 42 = .ok (.iload 7, 2) := by decide +kernel
theorem dX9_behind_44 : decode cX9_behind 44 = .ok (.imul, 1) := by decide +kernel
theorem dX9_behind_45 : decode cX9_behind 45 = .ok (.iadd, 1) := by decide +kernel
theorem dX9_behind_46 : decode cX9_behind 46 = .ok (.iaload, 1) := by decide +kernel
theorem dX9_behind_47 : decode cX9_behind 47 = .ok (.if_icmp .ne 5, 3) := by decide +kernel
theorem dX9_behind_50 : decode cX9_behind 50 = .ok (.iconst (-1), 1) := by decide +kernel
theorem dX9_behind_51 : decode cX9_behind 51 = .ok (.ireturn, 1) := by decide +kernel
theorem dX9_behind_52 : decode cX9_behind 52 = .ok (.aload_n 0, 1) := by decide +kernel
theorem dX9_behind_53 : decode cX9_behind 53 = .ok (.getfield 7, 3) := by decide +kernel
theorem dX9_behind_56 : decode cX9_behind 56 = .ok (.bipush 126, 2) := by decide +kernel
theorem dX9_behind_58 : decode cX9_behind 58 = .ok (.iconst 4, 1) := by decide +kernel
theorem dX9_behind_59 : decode cX9_behind 59 = .ok (.iload 7, 2) := by decide +kernel
theorem dX9_behind_61 : decode cX9_behind 61 = .ok (.imul, 1) := by decide +kernel
theorem dX9_behind_62 : decode cX9_behind 62 = .ok (.iadd, 1) := by decide +kernel
theorem dX9_behind_63 : decode cX9_behind 63 = .ok (.iconst 1, 1) := by decide +kernel
theorem dX9_behind_64 : decode cX9_behind 64 = .ok (.iadd, 1) := by decide +kernel
theorem dX9_behind_65 : decode cX9_behind 65 = .ok (.iload_n 1, 1) := by decide +kernel
theorem dX9_behind_66 : decode cX9_behind 66 = .ok (.iload 7, 2) := by decide +kernel
theorem dX9_behind_68 : decode cX9_behind 68 = .ok (.invokestatic 125, 3) := by decide +kernel
theorem dX9_behind_71 : decode cX9_behind 71 = .ok (.iadd, 1) := by decide +kernel
theorem dX9_behind_72 : decode cX9_behind 72 = .ok (.iaload, 1) := by decide +kernel
theorem dX9_behind_73 : decode cX9_behind 73 = .ok (.istore 8, 2) := by decide +kernel
theorem dX9_behind_75 : decode cX9_behind 75 = .ok (.aload_n 0, 1) := by decide +kernel
theorem dX9_behind_76 : decode cX9_behind 76 = .ok (.iload 8, 2) := by decide +kernel
theorem dX9_behind_78 : decode cX9_behind 78 = .ok (.invokevirtual 79, 3) := by decide +kernel
theorem dX9_behind_81 : decode cX9_behind 81 = .ok (.iload 5, 2) := by decide +kernel
theorem dX9_behind_83 : decode cX9_behind 83 = .ok (.if_icmp .le 12, 3) := by decide +kernel
theorem dX9_behind_86 : decode cX9_behind 86 = .ok (.aload_n 0, 1) := by decide +kernel
theorem dX9_behind_87 : decode cX9_behind 87 = .ok (.iload 8, 2) := by decide +kernel
theorem dX9_behind_89 : decode cX9_behind 89 = .ok (.invokevirtual 79, 3) := by decide +kernel
theorem dX9_behind_92 : decode cX9_behind 92 = .ok (.goto 5, 3) := by decide +kernel
theorem dX9_behind_95 : decode cX9_behind 95 = .ok (.iload 5, 2) := by decide +kernel
theorem dX9_behind_97 : decode cX9_behind 97 = .ok (.istore 5, 2) := by decide +kernel
theorem dX9_behind_99 : decode cX9_behind 99 = .ok (.aload_n 0, 1) := by decide +kernel
theorem dX9_behind_100 : decode cX9_behind 100 = .ok (.iload 8, 2) := by decide +kernel
theorem dX9_behind_102 : decode cX9_behind 102 = .ok (.invokevirtual 82, 3) := by decide +kernel
theorem dX9_behind_105 : decode cX9_behind 105 = .ok (.iload 6, 2) := by decide +kernel
theorem dX9_behind_107 : decode cX9_behind 107 = .ok (.if_icmp .ge 12, 3) := by decide +kernel
theorem dX9_behind_110 : decode cX9_behind 110 = .ok (.aload_n 0, 1) := by decide +kernel
theorem dX9_behind_111 : decode cX9_behind 111 = .ok (.iload 8, 2) := by decide +kernel
theorem dX9_behind_113 : decode cX9_behind 113 = .ok (.invokevirtual 82, 3) := by decide +kernel
theorem dX9_behind_116 : decode cX9_behind 116 = .ok (.goto 5, 3) := by decide +kernel
theorem dX9_behind_119 : decode cX9_behind 119 = .ok (.iload 6, 2) := by decide +kernel
theorem dX9_behind_121 : decode cX9_behind 121 = .ok (.istore 6, 2) := by decide +kernel
theorem dX9_behind_123 : decode cX9_behind 123 = .ok (.iload 4, 2) := by decide +kernel
theorem dX9_behind_125 : decode cX9_behind 125 = .ok (.iconst 1, 1) := by decide +kernel
theorem dX9_behind_126 : decode cX9_behind 126 = .ok (.iconst 2, 1) := by decide +kernel
theorem dX9_behind_127 : decode cX9_behind 127 = .ok (.iload 7, 2) := by decide +kernel
theorem dX9_behind_129 : decode cX9_behind 129 = .ok (.imul, 1) := by decide +kernel
theorem dX9_behind_130 : decode cX9_behind 130 = .ok (.ishl, 1) := by decide +kernel
theorem dX9_behind_131 : decode cX9_behind 131 = .ok (.iadd, 1) := by decide +kernel
theorem dX9_behind_132 : decode cX9_behind 132 = .ok (.istore 4, 2) := by decide +kernel
theorem dX9_behind_134 : decode cX9_behind 134 = .ok (.iinc 7 1, 3) := by decide +kernel
theorem dX9_behind_137 : decode cX9_behind 137 = .ok (.goto (-125), 3) := by decide +kernel
theorem dX9_behind_140 : decode cX9_behind 140 = .ok (.aload_n 0, 1) := by decide +kernel
theorem dX9_behind_141 : decode cX9_behind 141 = .ok (.iload 5, 2) := by decide +kernel
theorem dX9_behind_143 : decode cX9_behind 143 = .ok (.putfield 128, 3) := by decide +kernel
theorem dX9_behind_146 : decode cX9_behind 146 = .ok (.iload 5, 2) := by decide +kernel
theorem dX9_behind_148 : decode cX9_behind 148 = .ok (.iload 6, 2) := by decide +kernel
theorem dX9_behind_150 : decode cX9_behind 150 = .ok (.if_icmp .gt 8, 3) := by decide +kernel
theorem dX9_behind_153 : decode cX9_behind 153 = .ok (.iload 4, 2) := by decide +kernel
theorem dX9_behind_155 : decode cX9_behind 155 = .ok (.goto 4, 3) := by decide +kernel
theorem dX9_behind_158 : decode cX9_behind 158 = .ok (.iconst (-1), 1) := by decide +kernel
theorem dX9_behind_159 : decode cX9_behind 159 = .ok (.ireturn, 1) := by decide +kernel
theorem dX9_isWithin_0 : decode cX9_isWithin 0 = .ok (.iconst 1, 1) := by decide +kernel
theorem dX9_isWithin_1 : decode cX9_isWithin 1 = .ok (.istore_n 2, 1) := by decide +kernel
theorem dX9_isWithin_2 : decode cX9_isWithin 2 = .ok (.iconst 0, 1) := by decide +kernel
theorem dX9_isWithin_3 : decode cX9_isWithin 3 = .ok (.istore_n 3, 1) := by decide +kernel
theorem dX9_isWithin_4 : decode cX9_isWithin 4 = .ok (.iload_n 3, 1) := by decide +kernel
theorem dX9_isWithin_5 : decode cX9_isWithin 5 = .ok (.bipush 6, 2) := by decide +kernel
theorem dX9_isWithin_7 : decode cX9_isWithin 7 = .ok (.if_icmp .ge 38, 3) := by decide +kernel
theorem dX9_isWithin_10 : decode cX9_isWithin 10 = .ok (.iload_n 2, 1) := by decide +kernel
theorem dX9_isWithin_11 : decode cX9_isWithin 11 = .ok (.ifCond .eq 26, 3) := by decide +kernel
theorem dX9_isWithin_14 : decode cX9_isWithin 14 = .ok (.iload_n 1, 1) := by decide +kernel
theorem dX9_isWithin_15 : decode cX9_isWithin 15 = .ok (.iload_n 3, 1) := by decide +kernel
theorem dX9_isWithin_16 : decode cX9_isWithin 16 = .ok (.invokestatic 125, 3) := by decide +kernel
theorem dX9_isWithin_19 : decode cX9_isWithin 19 = .ok (.aload_n 0, 1) := by decide +kernel
theorem dX9_isWithin_20 : decode cX9_isWithin 20 = .ok (.getfield 7, 3) := by decide +kernel
theorem dX9_isWithin_23 : decode cX9_isWithin 23 = .ok (.bipush 126, 2) := by decide +kernel
theorem dX9_isWithin_25 : decode cX9_isWithin 25 = .ok (.iconst 4, 1) := by decide +kernel
theorem dX9_isWithin_26 : decode cX9_isWithin 26 = .ok (.iload_n 3, 1) := by decide +kernel
theorem dX9_isWithin_27 : decode cX9_isWithin 27 = .ok (.imul, 1) := by decide +kernel
theorem dX9_isWithin_28 : decode cX9_isWithin 28 = .ok (.iadd, 1) := by decide +kernel
theorem dX9_isWithin_29 : decode cX9_isWithin 29 = .ok (.iaload, 1) := by decide +kernel
theorem dX9_isWithin_30 : decode cX9_isWithin 30 = .ok (.if_icmp .gt 7, 3) := by decide +kernel
theorem dX9_isWithin_33 : decode cX9_isWithin 33 = .ok (.iconst 1, 1) := by decide +kernel
theorem dX9_isWithin_34 : decode cX9_isWithin 34 = .ok (.goto 4, 3) := by decide +kernel
theorem dX9_isWithin_37 : decode cX9_isWithin 37 = .ok (.iconst 0, 1) := by decide +kernel
theorem dX9_isWithin_38 : decode cX9_isWithin 38 = .ok (.istore_n 2, 1) := by decide +kernel
theorem dX9_isWithin_39 : decode cX9_isWithin 39 = .ok (.iinc 3 1, 3) := by decide +kernel
theorem dX9_isWithin_42 : decode cX9_isWithin 42 = .ok (.goto (-38), 3) := by decide +kernel
theorem dX9_isWithin_45 : decode cX9_isWithin 45 = .ok (.iload_n 2, 1) := by decide +kernel
theorem dX9_isWithin_46 : decode cX9_isWithin 46 = .ok (.ireturn, 1) := by decide +kernel
theorem dX9_plans_0 : decode cX9_plans 0 = .ok (.sipush 4095, 3) := by decide +kernel
theorem dX9_plans_3 : decode cX9_plans 3 = .ok (.istore_n 1, 1) := by decide +kernel
theorem dX9_plans_4 : decode cX9_plans 4 = .ok (.iload_n 1, 1) := by decide +kernel
theorem dX9_plans_5 : decode cX9_plans 5 = .ok (.ifCond .lt 196, 3) := by decide +kernel
theorem dX9_plans_8 : decode cX9_plans 8 = .ok (.aload_n 0, 1) := by decide +kernel
theorem dX9_plans_9 : decode cX9_plans 9 = .ok (.getfield 25, 3) := by decide +kernel
theorem dX9_plans_12 : decode cX9_plans 12 = .ok (.iload_n 1, 1) := by decide +kernel
theorem dX9_plans_13 : decode cX9_plans 13 = .ok (.iconst (-1), 1) := by decide +kernel
theorem dX9_plans_14 : decode cX9_plans 14 = .ok (.iastore, 1) := by decide +kernel
theorem dX9_plans_15 : decode cX9_plans 15 = .ok (.aload_n 0, 1) := by decide +kernel
theorem dX9_plans_16 : decode cX9_plans 16 = .ok (.iload_n 1, 1) := by decide +kernel
theorem dX9_plans_17 : decode cX9_plans 17 = .ok (.invokevirtual 131, 3) := by decide +kernel
theorem dX9_plans_20 : decode cX9_plans 20 = .ok (.istore_n 2, 1) := by decide +kernel
theorem dX9_plans_21 : decode cX9_plans 21 = .ok (.iload_n 2, 1) := by decide +kernel
theorem dX9_plans_22 : decode cX9_plans 22 = .ok (.ifCond .eq 11, 3) := by decide +kernel
theorem dX9_plans_25 : decode cX9_plans 25 = .ok (.aload_n 0, 1) := by decide +kernel
theorem dX9_plans_26 : decode cX9_plans 26 = .ok (.iload_n 1, 1) := by decide +kernel
theorem dX9_plans_27 : decode cX9_plans 27 = .ok (.invokevirtual 134, 3) := by decide +kernel
theorem dX9_plans_30 : decode cX9_plans 30 = .ok (.goto 4, 3) := by decide +kernel
theorem dX9_plans_33 : decode cX9_plans 33 = .ok (.iconst 0, 1) := by decide +kernel
theorem dX9_plans_34 : decode cX9_plans 34 = .ok (.istore_n 3, 1) := by decide +kernel
theorem dX9_plans_35 : decode cX9_plans 35 = .ok (.iconst 1, 1) := by decide +kernel
theorem dX9_plans_36 : decode cX9_plans 36 = .ok (.istore 4, 2) := by decide +kernel
theorem dX9_plans_38 : decode cX9_plans 38 = .ok (.iconst 0, 1) := by decide +kernel
theorem dX9_plans_39 : decode cX9_plans 39 = .ok (.istore 5, 2) := by decide +kernel
theorem dX9_plans_41 : decode cX9_plans 41 = .ok (.iload 5, 2) := by decide +kernel
theorem dX9_plans_43 : decode cX9_plans 43 = .ok (.bipush 6, 2) := by decide +kernel
theorem dX9_plans_45 : decode cX9_plans 45 = .ok (.if_icmp .ge 42, 3) := by decide +kernel
theorem dX9_plans_48 : decode cX9_plans 48 = .ok (.iload 4, 2) := by decide +kernel
theorem dX9_plans_50 : decode cX9_plans 50 = .ok (.ifCond .eq 28, 3) := by decide +kernel
theorem dX9_plans_53 : decode cX9_plans 53 = .ok (.iload_n 1, 1) := by decide +kernel
theorem dX9_plans_54 : decode cX9_plans 54 = .ok (.iload 5, 2) := by decide +kernel
theorem dX9_plans_56 : decode cX9_plans 56 = .ok (.invokestatic 125, 3) := by decide +kernel
theorem dX9_plans_59 : decode cX9_plans 59 = .ok (.aload_n 0, 1) := by decide +kernel
theorem dX9_plans_60 : decode cX9_plans 60 = .ok (.getfield 7, 3) := by decide +kernel
theorem dX9_plans_63 : decode cX9_plans 63 = .ok (.bipush 126, 2) := by decide +kernel
theorem dX9_plans_65 : decode cX9_plans 65 = .ok (.iconst 4, 1) := by decide +kernel
theorem dX9_plans_66 : decode cX9_plans 66 = .ok (.iload 5, 2) := by decide +kernel
theorem dX9_plans_68 : decode cX9_plans 68 = .ok (.imul, 1) := by decide +kernel
theorem dX9_plans_69 : decode cX9_plans 69 = .ok (.iadd, 1) := by decide +kernel
theorem dX9_plans_70 : decode cX9_plans 70 = .ok (.iaload, 1) := by decide +kernel
theorem dX9_plans_71 : decode cX9_plans 71 = .ok (.if_icmp .ne 7, 3) := by decide +kernel
theorem dX9_plans_74 : decode cX9_plans 74 = .ok (.iconst 1, 1) := by decide +kernel
theorem dX9_plans_75 : decode cX9_plans 75 = .ok (.goto 4, 3) := by decide +kernel
theorem dX9_plans_78 : decode cX9_plans 78 = .ok (.iconst 0, 1) := by decide +kernel
theorem dX9_plans_79 : decode cX9_plans 79 = .ok (.istore 4, 2) := by decide +kernel
theorem dX9_plans_81 : decode cX9_plans 81 = .ok (.iinc 5 1, 3) := by decide +kernel
theorem dX9_plans_84 : decode cX9_plans 84 = .ok (.goto (-43), 3) := by decide +kernel
theorem dX9_plans_87 : decode cX9_plans 87 = .ok (.aload_n 0, 1) := by decide +kernel
theorem dX9_plans_88 : decode cX9_plans 88 = .ok (.getfield 25, 3) := by decide +kernel
theorem dX9_plans_91 : decode cX9_plans 91 = .ok (.iload_n 1, 1) := by decide +kernel
theorem dX9_plans_92 : decode cX9_plans 92 = .ok (.iload 4, 2) := by decide +kernel
theorem dX9_plans_94 : decode cX9_plans 94 = .ok (.ifCond .eq 7, 3) := by decide +kernel
theorem dX9_plans_97 : decode cX9_plans 97 = .ok (.iconst 0, 1) := by decide +kernel
theorem dX9_plans_98 : decode cX9_plans 98 = .ok (.goto 4, 3) := by decide +kernel
theorem dX9_plans_101 : decode cX9_plans 101 = .ok (.iconst (-1), 1) := by decide +kernel
theorem dX9_plans_102 : decode cX9_plans 102 = .ok (.iastore, 1) := by decide +kernel
theorem dX9_plans_103 : decode cX9_plans 103 = .ok (.iconst 1, 1) := by decide +kernel
theorem dX9_plans_104 : decode cX9_plans 104 = .ok (.istore 5, 2) := by decide +kernel
theorem dX9_plans_106 : decode cX9_plans 106 = .ok (.iload 5, 2) := by decide +kernel
theorem dX9_plans_108 : decode cX9_plans 108 = .ok (.bipush 64, 2) := by decide +kernel
theorem dX9_plans_110 : decode cX9_plans 110 = .ok (.if_icmp .ge 85, 3) := by decide +kernel
theorem dX9_plans_113 : decode cX9_plans 113 = .ok (.iload_n 2, 1) := by decide +kernel
theorem dX9_plans_114 : decode cX9_plans 114 = .ok (.ifCond .eq 81, 3) := by decide +kernel
theorem dX9_plans_117 : decode cX9_plans 117 = .ok (.iload 4, 2) := by decide +kernel
theorem dX9_plans_119 : decode cX9_plans 119 = .ok (.ifCond .ne 76, 3) := by decide +kernel
theorem dX9_plans_122 : decode cX9_plans 122 = .ok (.aload_n 0, 1) := by decide +kernel
theorem dX9_plans_123 : decode cX9_plans 123 = .ok (.iload_n 1, 1) := by decide +kernel
theorem dX9_plans_124 : decode cX9_plans 124 = .ok (.iload 5, 2) := by decide +kernel
theorem dX9_plans_126 : decode cX9_plans 126 = .ok (.iload_n 3, 1) := by decide +kernel
theorem dX9_plans_127 : decode cX9_plans 127 = .ok (.invokevirtual 137, 3) := by decide +kernel
theorem dX9_plans_130 : decode cX9_plans 130 = .ok (.istore 6, 2) := by decide +kernel
theorem dX9_plans_132 : decode cX9_plans 132 = .ok (.iload 6, 2) := by decide +kernel
theorem dX9_plans_134 : decode cX9_plans 134 = .ok (.ifCond .lt 55, 3) := by decide +kernel
theorem dX9_plans_137 : decode cX9_plans 137 = .ok (.aload_n 0, 1) := by decide +kernel
theorem dX9_plans_138 : decode cX9_plans 138 = .ok (.getfield 25, 3) := by decide +kernel
theorem dX9_plans_141 : decode cX9_plans 141 = .ok (.iload 6, 2) := by decide +kernel
theorem dX9_plans_143 : decode cX9_plans 143 = .ok (.iaload, 1) := by decide +kernel
theorem dX9_plans_144 : decode cX9_plans 144 = .ok (.ifCond .lt 45, 3) := by decide +kernel
theorem dX9_plans_147 : decode cX9_plans 147 = .ok (.aload_n 0, 1) := by decide +kernel
theorem dX9_plans_148 : decode cX9_plans 148 = .ok (.getfield 25, 3) := by decide +kernel
theorem dX9_plans_151 : decode cX9_plans 151 = .ok (.iload_n 1, 1) := by decide +kernel
theorem dX9_plans_152 : decode cX9_plans 152 = .ok (.iaload, 1) := by decide +kernel
theorem dX9_plans_153 : decode cX9_plans 153 = .ok (.ifCond .lt 21, 3) := by decide +kernel
theorem dX9_plans_156 : decode cX9_plans 156 = .ok (.aload_n 0, 1) := by decide +kernel
theorem dX9_plans_157 : decode cX9_plans 157 = .ok (.getfield 25, 3) := by decide +kernel
theorem dX9_plans_160 : decode cX9_plans 160 = .ok (.iload 6, 2) := by decide +kernel
theorem dX9_plans_162 : decode cX9_plans 162 = .ok (.iaload, 1) := by decide +kernel
theorem dX9_plans_163 : decode cX9_plans 163 = .ok (.iconst 1, 1) := by decide +kernel
theorem dX9_plans_164 : decode cX9_plans 164 = .ok (.iadd, 1) := by decide +kernel
theorem dX9_plans_165 : decode cX9_plans 165 = .ok (.aload_n 0, 1) := by decide +kernel
theorem dX9_plans_166 : decode cX9_plans 166 = .ok (.getfield 25, 3) := by decide +kernel
theorem dX9_plans_169 : decode cX9_plans 169 = .ok (.iload_n 1, 1) := by decide +kernel
theorem dX9_plans_170 : decode cX9_plans 170 = .ok (.iaload, 1) := by decide +kernel
theorem dX9_plans_171 : decode cX9_plans 171 = .ok (.if_icmp .ge 18, 3) := by decide +kernel
theorem dX9_plans_174 : decode cX9_plans 174 = .ok (.aload_n 0, 1) := by decide +kernel
theorem dX9_plans_175 : decode cX9_plans 175 = .ok (.getfield 25, 3) := by decide +kernel
theorem dX9_plans_178 : decode cX9_plans 178 = .ok (.iload_n 1, 1) := by decide +kernel
theorem dX9_plans_179 : decode cX9_plans 179 = .ok (.aload_n 0, 1) := by decide +kernel
theorem dX9_plans_180 : decode cX9_plans 180 = .ok (.getfield 25, 3) := by decide +kernel
theorem dX9_plans_183 : decode cX9_plans 183 = .ok (.iload 6, 2) := by decide +kernel
theorem dX9_plans_185 : decode cX9_plans 185 = .ok (.iaload, 1) := by decide +kernel
theorem dX9_plans_186 : decode cX9_plans 186 = .ok (.iconst 1, 1) := by decide +kernel
theorem dX9_plans_187 : decode cX9_plans 187 = .ok (.iadd, 1) := by decide +kernel
theorem dX9_plans_188 : decode cX9_plans 188 = .ok (.iastore, 1) := by decide +kernel
theorem dX9_plans_189 : decode cX9_plans 189 = .ok (.iinc 5 1, 3) := by decide +kernel
theorem dX9_plans_192 : decode cX9_plans 192 = .ok (.goto (-86), 3) := by decide +kernel
theorem dX9_plans_195 : decode cX9_plans 195 = .ok (.iinc 1 (-1), 3) := by decide +kernel
theorem dX9_plans_198 : decode cX9_plans 198 = .ok (.goto (-194), 3) := by decide +kernel
theorem dX9_plans_201 : decode cX9_plans 201 = .ok (.return_, 1) := by decide +kernel
theorem dX9_leastFirings_0 : decode cX9_leastFirings 0 = .ok (.aload_n 0, 1) := by decide +kernel
theorem dX9_leastFirings_1 : decode cX9_leastFirings 1 = .ok (.invokevirtual 140, 3) := by decide +kernel
theorem dX9_leastFirings_4 : decode cX9_leastFirings 4 = .ok (.aload_n 0, 1) := by decide +kernel
theorem dX9_leastFirings_5 : decode cX9_leastFirings 5 = .ok (.getfield 25, 3) := by decide +kernel
theorem dX9_leastFirings_8 : decode cX9_leastFirings 8 = .ok (.iconst 0, 1) := by decide +kernel
theorem dX9_leastFirings_9 : decode cX9_leastFirings 9 = .ok (.iaload, 1) := by decide +kernel
theorem dX9_leastFirings_10 : decode cX9_leastFirings 10 = .ok (.ifCond .ge 8, 3) := by decide +kernel
theorem dX9_leastFirings_13 : decode cX9_leastFirings 13 = .ok (.bipush (-4), 2) := by decide +kernel
theorem dX9_leastFirings_15 : decode cX9_leastFirings 15 = .ok (.goto 9, 3) := by decide +kernel
theorem dX9_leastFirings_18 : decode cX9_leastFirings 18 = .ok (.aload_n 0, 1) := by decide +kernel
theorem dX9_leastFirings_19 : decode cX9_leastFirings 19 = .ok (.getfield 25, 3) := by decide +kernel
theorem dX9_leastFirings_22 : decode cX9_leastFirings 22 = .ok (.iconst 0, 1) := by decide +kernel
theorem dX9_leastFirings_23 : decode cX9_leastFirings 23 = .ok (.iaload, 1) := by decide +kernel
theorem dX9_leastFirings_24 : decode cX9_leastFirings 24 = .ok (.ireturn, 1) := by decide +kernel
theorem dX9_planned_0 : decode cX9_planned 0 = .ok (.iload_n 1, 1) := by decide +kernel
theorem dX9_planned_1 : decode cX9_planned 1 = .ok (.ifCond .lt 12, 3) := by decide +kernel
theorem dX9_planned_4 : decode cX9_planned 4 = .ok (.iload_n 2, 1) := by decide +kernel
theorem dX9_planned_5 : decode cX9_planned 5 = .ok (.iconst 0, 1) := by decide +kernel
theorem dX9_planned_6 : decode cX9_planned 6 = .ok (.iconst 1, 1) := by decide +kernel
theorem dX9_planned_7 : decode cX9_planned 7 = .ok (.invokestatic 32, 3) := by decide +kernel
theorem dX9_planned_10 : decode cX9_planned 10 = .ok (.ifCond .ne 5, 3) := by decide +kernel
theorem dX9_planned_13 : decode cX9_planned 13 = .ok (.iconst (-1), 1) := by decide +kernel
theorem dX9_planned_14 : decode cX9_planned 14 = .ok (.ireturn, 1) := by decide +kernel
theorem dX9_planned_15 : decode cX9_planned 15 = .ok (.aload_n 0, 1) := by decide +kernel
theorem dX9_planned_16 : decode cX9_planned 16 = .ok (.invokevirtual 140, 3) := by decide +kernel
theorem dX9_planned_19 : decode cX9_planned 19 = .ok (.aload_n 0, 1) := by decide +kernel
theorem dX9_planned_20 : decode cX9_planned 20 = .ok (.getfield 25, 3) := by decide +kernel
theorem dX9_planned_23 : decode cX9_planned 23 = .ok (.iconst 0, 1) := by decide +kernel
theorem dX9_planned_24 : decode cX9_planned 24 = .ok (.iaload, 1) := by decide +kernel
theorem dX9_planned_25 : decode cX9_planned 25 = .ok (.iload_n 1, 1) := by decide +kernel
theorem dX9_planned_26 : decode cX9_planned 26 = .ok (.if_icmp .gt 6, 3) := by decide +kernel
theorem dX9_planned_29 : decode cX9_planned 29 = .ok (.bipush (-4), 2) := by decide +kernel
theorem dX9_planned_31 : decode cX9_planned 31 = .ok (.ireturn, 1) := by decide +kernel
theorem dX9_planned_32 : decode cX9_planned 32 = .ok (.iconst 0, 1) := by decide +kernel
theorem dX9_planned_33 : decode cX9_planned 33 = .ok (.istore_n 3, 1) := by decide +kernel
theorem dX9_planned_34 : decode cX9_planned 34 = .ok (.iconst 0, 1) := by decide +kernel
theorem dX9_planned_35 : decode cX9_planned 35 = .ok (.istore 4, 2) := by decide +kernel
theorem dX9_planned_37 : decode cX9_planned 37 = .ok (.iconst 0, 1) := by decide +kernel
theorem dX9_planned_38 : decode cX9_planned 38 = .ok (.istore 5, 2) := by decide +kernel
theorem dX9_planned_40 : decode cX9_planned 40 = .ok (.iload 5, 2) := by decide +kernel
theorem dX9_planned_42 : decode cX9_planned 42 = .ok (.iload_n 1, 1) := by decide +kernel
theorem dX9_planned_43 : decode cX9_planned 43 = .ok (.if_icmp .gt 73, 3) := by decide +kernel
theorem dX9_planned_46 : decode cX9_planned 46 = .ok (.aload_n 0, 1) := by decide +kernel
theorem dX9_planned_47 : decode cX9_planned 47 = .ok (.iload_n 3, 1) := by decide +kernel
theorem dX9_planned_48 : decode cX9_planned 48 = .ok (.invokevirtual 134, 3) := by decide +kernel
theorem dX9_planned_51 : decode cX9_planned 51 = .ok (.istore 6, 2) := by decide +kernel
theorem dX9_planned_53 : decode cX9_planned 53 = .ok (.iconst 1, 1) := by decide +kernel
theorem dX9_planned_54 : decode cX9_planned 54 = .ok (.istore 4, 2) := by decide +kernel
theorem dX9_planned_56 : decode cX9_planned 56 = .ok (.aload_n 0, 1) := by decide +kernel
theorem dX9_planned_57 : decode cX9_planned 57 = .ok (.iload_n 3, 1) := by decide +kernel
theorem dX9_planned_58 : decode cX9_planned 58 = .ok (.iload 4, 2) := by decide +kernel
theorem dX9_planned_60 : decode cX9_planned 60 = .ok (.iload 6, 2) := by decide +kernel
theorem dX9_planned_62 : decode cX9_planned 62 = .ok (.invokevirtual 137, 3) := by decide +kernel
theorem dX9_planned_65 : decode cX9_planned 65 = .ok (.istore 7, 2) := by decide +kernel
theorem dX9_planned_67 : decode cX9_planned 67 = .ok (.iload 7, 2) := by decide +kernel
theorem dX9_planned_69 : decode cX9_planned 69 = .ok (.ifCond .lt 21, 3) := by decide +kernel
theorem dX9_planned_72 : decode cX9_planned 72 = .ok (.aload_n 0, 1) := by decide +kernel
theorem dX9_planned_73 : decode cX9_planned 73 = .ok (.getfield 25, 3) := by decide +kernel
theorem dX9_planned_76 : decode cX9_planned 76 = .ok (.iload 7, 2) := by decide +kernel
theorem dX9_planned_78 : decode cX9_planned 78 = .ok (.iaload, 1) := by decide +kernel
theorem dX9_planned_79 : decode cX9_planned 79 = .ok (.aload_n 0, 1) := by decide +kernel
theorem dX9_planned_80 : decode cX9_planned 80 = .ok (.getfield 25, 3) := by decide +kernel
theorem dX9_planned_83 : decode cX9_planned 83 = .ok (.iload_n 3, 1) := by decide +kernel
theorem dX9_planned_84 : decode cX9_planned 84 = .ok (.iaload, 1) := by decide +kernel
theorem dX9_planned_85 : decode cX9_planned 85 = .ok (.iconst 1, 1) := by decide +kernel
theorem dX9_planned_86 : decode cX9_planned 86 = .ok (.isub, 1) := by decide +kernel
theorem dX9_planned_87 : decode cX9_planned 87 = .ok (.if_icmp .eq 20, 3) := by decide +kernel
theorem dX9_planned_90 : decode cX9_planned 90 = .ok (.iinc 4 1, 3) := by decide +kernel
theorem dX9_planned_93 : decode cX9_planned 93 = .ok (.aload_n 0, 1) := by decide +kernel
theorem dX9_planned_94 : decode cX9_planned 94 = .ok (.iload_n 3, 1) := by decide +kernel
theorem dX9_planned_95 : decode cX9_planned 95 = .ok (.iload 4, 2) := by decide +kernel
theorem dX9_planned_97 : decode cX9_planned 97 = .ok (.iload 6, 2) := by decide +kernel
theorem dX9_planned_99 : decode cX9_planned 99 = .ok (.invokevirtual 137, 3) := by decide +kernel
theorem dX9_planned_102 : decode cX9_planned 102 = .ok (.istore 7, 2) := by decide +kernel
theorem dX9_planned_104 : decode cX9_planned 104 = .ok (.goto (-37), 3) := by decide +kernel
theorem dX9_planned_107 : decode cX9_planned 107 = .ok (.iload 7, 2) := by decide +kernel
theorem dX9_planned_109 : decode cX9_planned 109 = .ok (.istore_n 3, 1) := by decide +kernel
theorem dX9_planned_110 : decode cX9_planned 110 = .ok (.iinc 5 1, 3) := by decide +kernel
theorem dX9_planned_113 : decode cX9_planned 113 = .ok (.goto (-73), 3) := by decide +kernel
theorem dX9_planned_116 : decode cX9_planned 116 = .ok (.iload_n 2, 1) := by decide +kernel
theorem dX9_planned_117 : decode cX9_planned 117 = .ok (.ifCond .ne 8, 3) := by decide +kernel
theorem dX9_planned_120 : decode cX9_planned 120 = .ok (.iload 4, 2) := by decide +kernel
theorem dX9_planned_122 : decode cX9_planned 122 = .ok (.goto 7, 3) := by decide +kernel
theorem dX9_planned_125 : decode cX9_planned 125 = .ok (.aload_n 0, 1) := by decide +kernel
theorem dX9_planned_126 : decode cX9_planned 126 = .ok (.getfield 128, 3) := by decide +kernel
theorem dX9_planned_129 : decode cX9_planned 129 = .ok (.ireturn, 1) := by decide +kernel
theorem dX9_counter_0 : decode cX9_counter 0 = .ok (.bipush (-4), 2) := by decide +kernel
theorem dX9_counter_2 : decode cX9_counter 2 = .ok (.istore_n 1, 1) := by decide +kernel
theorem dX9_counter_3 : decode cX9_counter 3 = .ok (.iconst 0, 1) := by decide +kernel
theorem dX9_counter_4 : decode cX9_counter 4 = .ok (.istore_n 2, 1) := by decide +kernel
theorem dX9_counter_5 : decode cX9_counter 5 = .ok (.iconst 0, 1) := by decide +kernel
theorem dX9_counter_6 : decode cX9_counter 6 = .ok (.istore_n 3, 1) := by decide +kernel
theorem dX9_counter_7 : decode cX9_counter 7 = .ok (.iload_n 3, 1) := by decide +kernel
theorem dX9_counter_8 : decode cX9_counter 8 = .ok (.aload_n 0, 1) := by decide +kernel
theorem dX9_counter_9 : decode cX9_counter 9 = .ok (.getfield 7, 3) := by decide +kernel
theorem dX9_counter_12 : decode cX9_counter 12 = .ok (.iconst 0, 1) := by decide +kernel
theorem dX9_counter_13 : decode cX9_counter 13 = .ok (.iaload, 1) := by decide +kernel
theorem dX9_counter_14 : decode cX9_counter 14 = .ok (.if_icmp .ge 106, 3) := by decide +kernel
theorem dX9_counter_17 : decode cX9_counter 17 = .ok (.iconst 0, 1) := by decide +kernel
theorem dX9_counter_18 : decode cX9_counter 18 = .ok (.istore 4, 2) := by decide +kernel
theorem dX9_counter_20 : decode cX9_counter 20 = .ok (.iconst 0, 1) := by decide +kernel
theorem dX9_counter_21 : decode cX9_counter 21 = .ok (.istore 5, 2) := by decide +kernel
theorem dX9_counter_23 : decode cX9_counter 23 = .ok (.iload 5, 2) := by decide +kernel
theorem dX9_counter_25 : decode cX9_counter 25 = .ok (.bipush 6, 2) := by decide +kernel
theorem dX9_counter_27 : decode cX9_counter 27 = .ok (.if_icmp .ge 45, 3) := by decide +kernel
theorem dX9_counter_30 : decode cX9_counter 30 = .ok (.aload_n 0, 1) := by decide +kernel
theorem dX9_counter_31 : decode cX9_counter 31 = .ok (.iload 5, 2) := by decide +kernel
theorem dX9_counter_33 : decode cX9_counter 33 = .ok (.aload_n 0, 1) := by decide +kernel
theorem dX9_counter_34 : decode cX9_counter 34 = .ok (.bipush 6, 2) := by decide +kernel
theorem dX9_counter_36 : decode cX9_counter 36 = .ok (.invokevirtual 76, 3) := by decide +kernel
theorem dX9_counter_39 : decode cX9_counter 39 = .ok (.aload_n 0, 1) := by decide +kernel
theorem dX9_counter_40 : decode cX9_counter 40 = .ok (.iload_n 3, 1) := by decide +kernel
theorem dX9_counter_41 : decode cX9_counter 41 = .ok (.invokevirtual 51, 3) := by decide +kernel
theorem dX9_counter_44 : decode cX9_counter 44 = .ok (.iadd, 1) := by decide +kernel
theorem dX9_counter_45 : decode cX9_counter 45 = .ok (.invokevirtual 85, 3) := by decide +kernel
theorem dX9_counter_48 : decode cX9_counter 48 = .ok (.istore 6, 2) := by decide +kernel
theorem dX9_counter_50 : decode cX9_counter 50 = .ok (.iload 6, 2) := by decide +kernel
theorem dX9_counter_52 : decode cX9_counter 52 = .ok (.iload 4, 2) := by decide +kernel
theorem dX9_counter_54 : decode cX9_counter 54 = .ok (.if_icmp .le 8, 3) := by decide +kernel
theorem dX9_counter_57 : decode cX9_counter 57 = .ok (.iload 6, 2) := by decide +kernel
theorem dX9_counter_59 : decode cX9_counter 59 = .ok (.goto 5, 3) := by decide +kernel
theorem dX9_counter_62 : decode cX9_counter 62 = .ok (.iload 4, 2) := by decide +kernel
theorem dX9_counter_64 : decode cX9_counter 64 = .ok (.istore 4, 2) := by decide +kernel
theorem dX9_counter_66 : decode cX9_counter 66 = .ok (.iinc 5 1, 3) := by decide +kernel
theorem dX9_counter_69 : decode cX9_counter 69 = .ok (.goto (-46), 3) := by decide +kernel
theorem dX9_counter_72 : decode cX9_counter 72 = .ok (.iload_n 1, 1) := by decide +kernel
theorem dX9_counter_73 : decode cX9_counter 73 = .ok (.bipush (-4), 2) := by decide +kernel
theorem dX9_counter_75 : decode cX9_counter 75 = .ok (.if_icmp .eq 9, 3) := by decide +kernel
theorem dX9_counter_78 : decode cX9_counter 78 = .ok (.iload 4, 2) := by decide +kernel
theorem dX9_counter_80 : decode cX9_counter 80 = .ok (.iload_n 2, 1) := by decide +kernel
theorem dX9_counter_81 : decode cX9_counter 81 = .ok (.if_icmp .ge 7, 3) := by decide +kernel
theorem dX9_counter_84 : decode cX9_counter 84 = .ok (.iconst 1, 1) := by decide +kernel
theorem dX9_counter_85 : decode cX9_counter 85 = .ok (.goto 4, 3) := by decide +kernel
theorem dX9_counter_88 : decode cX9_counter 88 = .ok (.iconst 0, 1) := by decide +kernel
theorem dX9_counter_89 : decode cX9_counter 89 = .ok (.istore 5, 2) := by decide +kernel
theorem dX9_counter_91 : decode cX9_counter 91 = .ok (.iload 5, 2) := by decide +kernel
theorem dX9_counter_93 : decode cX9_counter 93 = .ok (.ifCond .eq 7, 3) := by decide +kernel
theorem dX9_counter_96 : decode cX9_counter 96 = .ok (.iload_n 3, 1) := by decide +kernel
theorem dX9_counter_97 : decode cX9_counter 97 = .ok (.goto 4, 3) := by decide +kernel
theorem dX9_counter_100 : decode cX9_counter 100 = .ok (.iload_n 1, 1) := by decide +kernel
theorem dX9_counter_101 : decode cX9_counter 101 = .ok (.istore_n 1, 1) := by decide +kernel
theorem dX9_counter_102 : decode cX9_counter 102 = .ok (.iload 5, 2) := by decide +kernel
theorem dX9_counter_104 : decode cX9_counter 104 = .ok (.ifCond .eq 8, 3) := by decide +kernel
theorem dX9_counter_107 : decode cX9_counter 107 = .ok (.iload 4, 2) := by decide +kernel
theorem dX9_counter_109 : decode cX9_counter 109 = .ok (.goto 4, 3) := by decide +kernel
theorem dX9_counter_112 : decode cX9_counter 112 = .ok (.iload_n 2, 1) := by decide +kernel
theorem dX9_counter_113 : decode cX9_counter 113 = .ok (.istore_n 2, 1) := by decide +kernel
theorem dX9_counter_114 : decode cX9_counter 114 = .ok (.iinc 3 1, 3) := by decide +kernel
theorem dX9_counter_117 : decode cX9_counter 117 = .ok (.goto (-110), 3) := by decide +kernel
theorem dX9_counter_120 : decode cX9_counter 120 = .ok (.iload_n 1, 1) := by decide +kernel
theorem dX9_counter_121 : decode cX9_counter 121 = .ok (.ireturn, 1) := by decide +kernel
theorem dX9_type_0 : decode cX9_type 0 = .ok (.iload_n 1, 1) := by decide +kernel
theorem dX9_type_1 : decode cX9_type 1 = .ok (.bipush 32, 2) := by decide +kernel
theorem dX9_type_3 : decode cX9_type 3 = .ok (.bipush 126, 2) := by decide +kernel
theorem dX9_type_5 : decode cX9_type 5 = .ok (.invokestatic 32, 3) := by decide +kernel
theorem dX9_type_8 : decode cX9_type 8 = .ok (.ifCond .ne 5, 3) := by decide +kernel
theorem dX9_type_11 : decode cX9_type 11 = .ok (.iconst (-1), 1) := by decide +kernel
theorem dX9_type_12 : decode cX9_type 12 = .ok (.ireturn, 1) := by decide +kernel
theorem dX9_type_13 : decode cX9_type 13 = .ok (.aload_n 0, 1) := by decide +kernel
theorem dX9_type_14 : decode cX9_type 14 = .ok (.getfield 105, 3) := by decide +kernel
theorem dX9_type_17 : decode cX9_type 17 = .ok (.bipush 80, 2) := by decide +kernel
theorem dX9_type_19 : decode cX9_type 19 = .ok (.if_icmp .ne 6, 3) := by decide +kernel
theorem dX9_type_22 : decode cX9_type 22 = .ok (.bipush (-3), 2) := by decide +kernel
theorem dX9_type_24 : decode cX9_type 24 = .ok (.ireturn, 1) := by decide +kernel
theorem dX9_type_25 : decode cX9_type 25 = .ok (.aload_n 0, 1) := by decide +kernel
theorem dX9_type_26 : decode cX9_type 26 = .ok (.getfield 19, 3) := by decide +kernel
theorem dX9_type_29 : decode cX9_type 29 = .ok (.aload_n 0, 1) := by decide +kernel
theorem dX9_type_30 : decode cX9_type 30 = .ok (.getfield 105, 3) := by decide +kernel
theorem dX9_type_33 : decode cX9_type 33 = .ok (.iload_n 1, 1) := by decide +kernel
theorem dX9_type_34 : decode cX9_type 34 = .ok (.iastore, 1) := by decide +kernel
theorem dX9_type_35 : decode cX9_type 35 = .ok (.aload_n 0, 1) := by decide +kernel
theorem dX9_type_36 : decode cX9_type 36 = .ok (.dup, 1) := by decide +kernel
theorem dX9_type_37 : decode cX9_type 37 = .ok (.getfield 105, 3) := by decide +kernel
theorem dX9_type_40 : decode cX9_type 40 = .ok (.iconst 1, 1) := by decide +kernel
theorem dX9_type_41 : decode cX9_type 41 = .ok (.iadd, 1) := by decide +kernel
theorem dX9_type_42 : decode cX9_type 42 = .ok (.putfield 105, 3) := by decide +kernel
theorem dX9_type_45 : decode cX9_type 45 = .ok (.aload_n 0, 1) := by decide +kernel
theorem dX9_type_46 : decode cX9_type 46 = .ok (.getfield 105, 3) := by decide +kernel
theorem dX9_type_49 : decode cX9_type 49 = .ok (.ireturn, 1) := by decide +kernel
theorem dX9_clearText_0 : decode cX9_clearText 0 = .ok (.aload_n 0, 1) := by decide +kernel
theorem dX9_clearText_1 : decode cX9_clearText 1 = .ok (.getfield 105, 3) := by decide +kernel
theorem dX9_clearText_4 : decode cX9_clearText 4 = .ok (.istore_n 1, 1) := by decide +kernel
theorem dX9_clearText_5 : decode cX9_clearText 5 = .ok (.aload_n 0, 1) := by decide +kernel
theorem dX9_clearText_6 : decode cX9_clearText 6 = .ok (.iconst 0, 1) := by decide +kernel
theorem dX9_clearText_7 : decode cX9_clearText 7 = .ok (.putfield 105, 3) := by decide +kernel
theorem dX9_clearText_10 : decode cX9_clearText 10 = .ok (.iload_n 1, 1) := by decide +kernel
theorem dX9_clearText_11 : decode cX9_clearText 11 = .ok (.ireturn, 1) := by decide +kernel
theorem dX9_reads_0 : decode cX9_reads 0 = .ok (.iconst 0, 1) := by decide +kernel
theorem dX9_reads_1 : decode cX9_reads 1 = .ok (.istore_n 2, 1) := by decide +kernel
theorem dX9_reads_2 : decode cX9_reads 2 = .ok (.iconst 0, 1) := by decide +kernel
theorem dX9_reads_3 : decode cX9_reads 3 = .ok (.istore_n 3, 1) := by decide +kernel
theorem dX9_reads_4 : decode cX9_reads 4 = .ok (.iconst 0, 1) := by decide +kernel
theorem dX9_reads_5 : decode cX9_reads 5 = .ok (.istore 4, 2) := by decide +kernel
theorem dX9_reads_7 : decode cX9_reads 7 = .ok (.aload_n 0, 1) := by decide +kernel
theorem dX9_reads_8 : decode cX9_reads 8 = .ok (.iconst 0, 1) := by decide +kernel
theorem dX9_reads_9 : decode cX9_reads 9 = .ok (.putfield 143, 3) := by decide +kernel
theorem dX9_reads_12 : decode cX9_reads 12 = .ok (.aload_n 0, 1) := by decide +kernel
theorem dX9_reads_13 : decode cX9_reads 13 = .ok (.iconst 0, 1) := by decide +kernel
theorem dX9_reads_14 : decode cX9_reads 14 = .ok (.putfield 146, 3) := by decide +kernel
theorem dX9_reads_17 : decode cX9_reads 17 = .ok (.aload_n 0, 1) := by decide +kernel
theorem dX9_reads_18 : decode cX9_reads 18 = .ok (.getfield 146, 3) := by decide +kernel
theorem dX9_reads_21 : decode cX9_reads 21 = .ok (.aload_n 0, 1) := by decide +kernel
theorem dX9_reads_22 : decode cX9_reads 22 = .ok (.getfield 105, 3) := by decide +kernel
theorem dX9_reads_25 : decode cX9_reads 25 = .ok (.if_icmp .ge 293, 3) := by decide +kernel
theorem dX9_reads_28 : decode cX9_reads 28 = .ok (.aload_n 0, 1) := by decide +kernel
theorem dX9_reads_29 : decode cX9_reads 29 = .ok (.getfield 19, 3) := by decide +kernel
theorem dX9_reads_32 : decode cX9_reads 32 = .ok (.aload_n 0, 1) := by decide +kernel
theorem dX9_reads_33 : decode cX9_reads 33 = .ok (.getfield 146, 3) := by decide +kernel
theorem dX9_reads_36 : decode cX9_reads 36 = .ok (.iaload, 1) := by decide +kernel
theorem dX9_reads_37 : decode cX9_reads 37 = .ok (.istore 5, 2) := by decide +kernel
theorem dX9_reads_39 : decode cX9_reads 39 = .ok (.iload_n 2, 1) := by decide +kernel
theorem dX9_reads_40 : decode cX9_reads 40 = .ok (.iconst 2, 1) := by decide +kernel
theorem dX9_reads_41 : decode cX9_reads 41 = .ok (.if_icmp .ne 19, 3) := by decide +kernel
theorem dX9_reads_44 : decode cX9_reads 44 = .ok (.iload 5, 2) := by decide +kernel
theorem dX9_reads_46 : decode cX9_reads 46 = .ok (.bipush 97, 2) := by decide +kernel
theorem dX9_reads_48 : decode cX9_reads 48 = .ok (.bipush 108, 2) := by decide +kernel
theorem dX9_reads_50 : decode cX9_reads 50 = .ok (.invokestatic 32, 3) := by decide +kernel
theorem dX9_reads_53 : decode cX9_reads 53 = .ok (.ifCond .eq 7, 3) := by decide +kernel
theorem dX9_reads_56 : decode cX9_reads 56 = .ok (.iconst 1, 1) := by decide +kernel
theorem dX9_reads_57 : decode cX9_reads 57 = .ok (.goto 4, 3) := by decide +kernel
theorem dX9_reads_60 : decode cX9_reads 60 = .ok (.iconst 0, 1) := by decide +kernel
theorem dX9_reads_61 : decode cX9_reads 61 = .ok (.istore 6, 2) := by decide +kernel
theorem dX9_reads_63 : decode cX9_reads 63 = .ok (.iload_n 2, 1) := by decide +kernel
theorem dX9_reads_64 : decode cX9_reads 64 = .ok (.ifCond .ne 15, 3) := by decide +kernel
theorem dX9_reads_67 : decode cX9_reads 67 = .ok (.iload 5, 2) := by decide +kernel
theorem dX9_reads_69 : decode cX9_reads 69 = .ok (.bipush 48, 2) := by decide +kernel
theorem dX9_reads_71 : decode cX9_reads 71 = .ok (.bipush 53, 2) := by decide +kernel
theorem dX9_reads_73 : decode cX9_reads 73 = .ok (.invokestatic 32, 3) := by decide +kernel
theorem dX9_reads_76 : decode cX9_reads 76 = .ok (.goto 40, 3) := by decide +kernel
theorem dX9_reads_79 : decode cX9_reads 79 = .ok (.iload_n 2, 1) := by decide +kernel
theorem dX9_reads_80 : decode cX9_reads 80 = .ok (.iconst 1, 1) := by decide +kernel
theorem dX9_reads_81 : decode cX9_reads 81 = .ok (.if_icmp .ne 18, 3) := by decide +kernel
theorem dX9_reads_84 : decode cX9_reads 84 = .ok (.iload 5, 2) := by decide +kernel
theorem dX9_reads_86 : decode cX9_reads 86 = .ok (.bipush 61, 2) := by decide +kernel
theorem dX9_reads_88 : decode cX9_reads 88 = .ok (.if_icmp .ne 7, 3) := by decide +kernel
theorem dX9_reads_91 : decode cX9_reads 91 = .ok (.iconst 1, 1) := by decide +kernel
theorem dX9_reads_92 : decode cX9_reads 92 = .ok (.goto 24, 3) := by decide +kernel
theorem dX9_reads_95 : decode cX9_reads 95 = .ok (.iconst 0, 1) := by decide +kernel
theorem dX9_reads_96 : decode cX9_reads 96 = .ok (.goto 20, 3) := by decide +kernel
theorem dX9_reads_99 : decode cX9_reads 99 = .ok (.iload 6, 2) := by decide +kernel
theorem dX9_reads_101 : decode cX9_reads 101 = .ok (.ifCond .ne 10, 3) := by decide +kernel
theorem dX9_reads_104 : decode cX9_reads 104 = .ok (.iload 5, 2) := by decide +kernel
theorem dX9_reads_106 : decode cX9_reads 106 = .ok (.bipush 59, 2) := by decide +kernel
theorem dX9_reads_108 : decode cX9_reads 108 = .ok (.if_icmp .ne 7, 3) := by decide +kernel
theorem dX9_reads_111 : decode cX9_reads 111 = .ok (.iconst 1, 1) := by decide +kernel
theorem dX9_reads_112 : decode cX9_reads 112 = .ok (.goto 4, 3) := by decide +kernel
theorem dX9_reads_115 : decode cX9_reads 115 = .ok (.iconst 0, 1) := by decide +kernel
theorem dX9_reads_116 : decode cX9_reads 116 = .ok (.istore 7, 2) := by decide +kernel
theorem dX9_reads_118 : decode cX9_reads 118 = .ok (.aload_n 0, 1) := by decide +kernel
theorem dX9_reads_119 : decode cX9_reads 119 = .ok (.iload 7, 2) := by decide +kernel
theorem dX9_reads_121 : decode cX9_reads 121 = .ok (.ifCond .ne 7, 3) := by decide +kernel
theorem dX9_reads_124 : decode cX9_reads 124 = .ok (.iconst 1, 1) := by decide +kernel
theorem dX9_reads_125 : decode cX9_reads 125 = .ok (.goto 40, 3) := by decide +kernel
theorem dX9_reads_128 : decode cX9_reads 128 = .ok (.iload 6, 2) := by decide +kernel
theorem dX9_reads_130 : decode cX9_reads 130 = .ok (.ifCond .eq 19, 3) := by decide +kernel
theorem dX9_reads_133 : decode cX9_reads 133 = .ok (.aload_n 0, 1) := by decide +kernel
theorem dX9_reads_134 : decode cX9_reads 134 = .ok (.iload 5, 2) := by decide +kernel
theorem dX9_reads_136 : decode cX9_reads 136 = .ok (.bipush 97, 2) := by decide +kernel
theorem dX9_reads_138 : decode cX9_reads 138 = .ok (.isub, 1) := by decide +kernel
theorem dX9_reads_139 : decode cX9_reads 139 = .ok (.invokevirtual 47, 3) := by decide +kernel
theorem dX9_reads_142 : decode cX9_reads 142 = .ok (.ifCond .ne 7, 3) := by decide +kernel
theorem dX9_reads_145 : decode cX9_reads 145 = .ok (.iconst 2, 1) := by decide +kernel
theorem dX9_reads_146 : decode cX9_reads 146 = .ok (.goto 19, 3) := by decide +kernel
theorem dX9_reads_149 : decode cX9_reads 149 = .ok (.iload 6, 2) := by decide +kernel
theorem dX9_reads_151 : decode cX9_reads 151 = .ok (.ifCond .eq 13, 3) := by decide +kernel
theorem dX9_reads_154 : decode cX9_reads 154 = .ok (.iload 4, 2) := by decide +kernel
theorem dX9_reads_156 : decode cX9_reads 156 = .ok (.iconst 3, 1) := by decide +kernel
theorem dX9_reads_157 : decode cX9_reads 157 = .ok (.if_icmp .ne 7, 3) := by decide +kernel
theorem dX9_reads_160 : decode cX9_reads 160 = .ok (.iconst 3, 1) := by decide +kernel
theorem dX9_reads_161 : decode cX9_reads 161 = .ok (.goto 4, 3) := by decide +kernel
theorem dX9_reads_164 : decode cX9_reads 164 = .ok (.iconst 0, 1) := by decide +kernel
theorem dX9_reads_165 : decode cX9_reads 165 = .ok (.putfield 149, 3) := by decide +kernel
theorem dX9_reads_168 : decode cX9_reads 168 = .ok (.aload_n 0, 1) := by decide +kernel
theorem dX9_reads_169 : decode cX9_reads 169 = .ok (.getfield 149, 3) := by decide +kernel
theorem dX9_reads_172 : decode cX9_reads 172 = .ok (.ifCond .le 5, 3) := by decide +kernel
theorem dX9_reads_175 : decode cX9_reads 175 = .ok (.iconst 1, 1) := by decide +kernel
theorem dX9_reads_176 : decode cX9_reads 176 = .ok (.ireturn, 1) := by decide +kernel
theorem dX9_reads_177 : decode cX9_reads 177 = .ok (.iload_n 2, 1) := by decide +kernel
theorem dX9_reads_178 : decode cX9_reads 178 = .ok (.ifCond .ne 12, 3) := by decide +kernel
theorem dX9_reads_181 : decode cX9_reads 181 = .ok (.iload 5, 2) := by decide +kernel
theorem dX9_reads_183 : decode cX9_reads 183 = .ok (.bipush 48, 2) := by decide +kernel
theorem dX9_reads_185 : decode cX9_reads 185 = .ok (.isub, 1) := by decide +kernel
theorem dX9_reads_186 : decode cX9_reads 186 = .ok (.istore_n 3, 1) := by decide +kernel
theorem dX9_reads_187 : decode cX9_reads 187 = .ok (.iconst 0, 1) := by decide +kernel
theorem dX9_reads_188 : decode cX9_reads 188 = .ok (.istore 4, 2) := by decide +kernel
theorem dX9_reads_190 : decode cX9_reads 190 = .ok (.iload 6, 2) := by decide +kernel
theorem dX9_reads_192 : decode cX9_reads 192 = .ok (.ifCond .eq 6, 3) := by decide +kernel
theorem dX9_reads_195 : decode cX9_reads 195 = .ok (.iinc 4 1, 3) := by decide +kernel
theorem dX9_reads_198 : decode cX9_reads 198 = .ok (.iload_n 1, 1) := by decide +kernel
theorem dX9_reads_199 : decode cX9_reads 199 = .ok (.ifCond .eq 20, 3) := by decide +kernel
theorem dX9_reads_202 : decode cX9_reads 202 = .ok (.iload_n 2, 1) := by decide +kernel
theorem dX9_reads_203 : decode cX9_reads 203 = .ok (.iconst 1, 1) := by decide +kernel
theorem dX9_reads_204 : decode cX9_reads 204 = .ok (.if_icmp .ne 15, 3) := by decide +kernel
theorem dX9_reads_207 : decode cX9_reads 207 = .ok (.aload_n 0, 1) := by decide +kernel
theorem dX9_reads_208 : decode cX9_reads 208 = .ok (.getfield 7, 3) := by decide +kernel
theorem dX9_reads_211 : decode cX9_reads 211 = .ok (.bipush 126, 2) := by decide +kernel
theorem dX9_reads_213 : decode cX9_reads 213 = .ok (.iconst 4, 1) := by decide +kernel
theorem dX9_reads_214 : decode cX9_reads 214 = .ok (.iload_n 3, 1) := by decide +kernel
theorem dX9_reads_215 : decode cX9_reads 215 = .ok (.imul, 1) := by decide +kernel
theorem dX9_reads_216 : decode cX9_reads 216 = .ok (.iadd, 1) := by decide +kernel
theorem dX9_reads_217 : decode cX9_reads 217 = .ok (.iconst 0, 1) := by decide +kernel
theorem dX9_reads_218 : decode cX9_reads 218 = .ok (.iastore, 1) := by decide +kernel
theorem dX9_reads_219 : decode cX9_reads 219 = .ok (.iload_n 1, 1) := by decide +kernel
theorem dX9_reads_220 : decode cX9_reads 220 = .ok (.ifCond .eq 40, 3) := by decide +kernel
theorem dX9_reads_223 : decode cX9_reads 223 = .ok (.iload 6, 2) := by decide +kernel
theorem dX9_reads_225 : decode cX9_reads 225 = .ok (.ifCond .eq 35, 3) := by decide +kernel
theorem dX9_reads_228 : decode cX9_reads 228 = .ok (.aload_n 0, 1) := by decide +kernel
theorem dX9_reads_229 : decode cX9_reads 229 = .ok (.getfield 7, 3) := by decide +kernel
theorem dX9_reads_232 : decode cX9_reads 232 = .ok (.bipush 126, 2) := by decide +kernel
theorem dX9_reads_234 : decode cX9_reads 234 = .ok (.iconst 4, 1) := by decide +kernel
theorem dX9_reads_235 : decode cX9_reads 235 = .ok (.iload_n 3, 1) := by decide +kernel
theorem dX9_reads_236 : decode cX9_reads 236 = .ok (.imul, 1) := by decide +kernel
theorem dX9_reads_237 : decode cX9_reads 237 = .ok (.iadd, 1) := by decide +kernel
theorem dX9_reads_238 : decode cX9_reads 238 = .ok (.iload 4, 2) := by decide +kernel
theorem dX9_reads_240 : decode cX9_reads 240 = .ok (.iadd, 1) := by decide +kernel
theorem dX9_reads_241 : decode cX9_reads 241 = .ok (.iload 5, 2) := by decide +kernel
theorem dX9_reads_243 : decode cX9_reads 243 = .ok (.bipush 97, 2) := by decide +kernel
theorem dX9_reads_245 : decode cX9_reads 245 = .ok (.isub, 1) := by decide +kernel
theorem dX9_reads_246 : decode cX9_reads 246 = .ok (.iastore, 1) := by decide +kernel
theorem dX9_reads_247 : decode cX9_reads 247 = .ok (.aload_n 0, 1) := by decide +kernel
theorem dX9_reads_248 : decode cX9_reads 248 = .ok (.getfield 7, 3) := by decide +kernel
theorem dX9_reads_251 : decode cX9_reads 251 = .ok (.bipush 126, 2) := by decide +kernel
theorem dX9_reads_253 : decode cX9_reads 253 = .ok (.iconst 4, 1) := by decide +kernel
theorem dX9_reads_254 : decode cX9_reads 254 = .ok (.iload_n 3, 1) := by decide +kernel
theorem dX9_reads_255 : decode cX9_reads 255 = .ok (.imul, 1) := by decide +kernel
theorem dX9_reads_256 : decode cX9_reads 256 = .ok (.iadd, 1) := by decide +kernel
theorem dX9_reads_257 : decode cX9_reads 257 = .ok (.iload 4, 2) := by decide +kernel
theorem dX9_reads_259 : decode cX9_reads 259 = .ok (.iastore, 1) := by decide +kernel
theorem dX9_reads_260 : decode cX9_reads 260 = .ok (.aload_n 0, 1) := by decide +kernel
theorem dX9_reads_261 : decode cX9_reads 261 = .ok (.dup, 1) := by decide +kernel
theorem dX9_reads_262 : decode cX9_reads 262 = .ok (.getfield 143, 3) := by decide +kernel
theorem dX9_reads_265 : decode cX9_reads 265 = .ok (.iload 5, 2) := by decide +kernel
theorem dX9_reads_267 : decode cX9_reads 267 = .ok (.bipush 59, 2) := by decide +kernel
theorem dX9_reads_269 : decode cX9_reads 269 = .ok (.if_icmp .ne 7, 3) := by decide +kernel
theorem dX9_reads_272 : decode cX9_reads 272 = .ok (.iconst 1, 1) := by decide +kernel
theorem dX9_reads_273 : decode cX9_reads 273 = .ok (.goto 4, 3) := by decide +kernel
theorem dX9_reads_276 : decode cX9_reads 276 = .ok (.iconst 0, 1) := by decide +kernel
theorem dX9_reads_277 : decode cX9_reads 277 = .ok (.iadd, 1) := by decide +kernel
theorem dX9_reads_278 : decode cX9_reads 278 = .ok (.putfield 143, 3) := by decide +kernel
theorem dX9_reads_281 : decode cX9_reads 281 = .ok (.iload 5, 2) := by decide +kernel
theorem dX9_reads_283 : decode cX9_reads 283 = .ok (.bipush 59, 2) := by decide +kernel
theorem dX9_reads_285 : decode cX9_reads 285 = .ok (.if_icmp .ne 7, 3) := by decide +kernel
theorem dX9_reads_288 : decode cX9_reads 288 = .ok (.iconst 0, 1) := by decide +kernel
theorem dX9_reads_289 : decode cX9_reads 289 = .ok (.goto 15, 3) := by decide +kernel
theorem dX9_reads_292 : decode cX9_reads 292 = .ok (.iload_n 2, 1) := by decide +kernel
theorem dX9_reads_293 : decode cX9_reads 293 = .ok (.iconst 2, 1) := by decide +kernel
theorem dX9_reads_294 : decode cX9_reads 294 = .ok (.if_icmp .ge 9, 3) := by decide +kernel
theorem dX9_reads_297 : decode cX9_reads 297 = .ok (.iload_n 2, 1) := by decide +kernel
theorem dX9_reads_298 : decode cX9_reads 298 = .ok (.iconst 1, 1) := by decide +kernel
theorem dX9_reads_299 : decode cX9_reads 299 = .ok (.iadd, 1) := by decide +kernel
theorem dX9_reads_300 : decode cX9_reads 300 = .ok (.goto 4, 3) := by decide +kernel
theorem dX9_reads_303 : decode cX9_reads 303 = .ok (.iconst 2, 1) := by decide +kernel
theorem dX9_reads_304 : decode cX9_reads 304 = .ok (.istore_n 2, 1) := by decide +kernel
theorem dX9_reads_305 : decode cX9_reads 305 = .ok (.aload_n 0, 1) := by decide +kernel
theorem dX9_reads_306 : decode cX9_reads 306 = .ok (.dup, 1) := by decide +kernel
theorem dX9_reads_307 : decode cX9_reads 307 = .ok (.getfield 146, 3) := by decide +kernel
theorem dX9_reads_310 : decode cX9_reads 310 = .ok (.iconst 1, 1) := by decide +kernel
theorem dX9_reads_311 : decode cX9_reads 311 = .ok (.iadd, 1) := by decide +kernel
theorem dX9_reads_312 : decode cX9_reads 312 = .ok (.putfield 146, 3) := by decide +kernel
theorem dX9_reads_315 : decode cX9_reads 315 = .ok (.goto (-298), 3) := by decide +kernel
theorem dX9_reads_318 : decode cX9_reads 318 = .ok (.aload_n 0, 1) := by decide +kernel
theorem dX9_reads_319 : decode cX9_reads 319 = .ok (.iconst 4, 1) := by decide +kernel
theorem dX9_reads_320 : decode cX9_reads 320 = .ok (.putfield 149, 3) := by decide +kernel
theorem dX9_reads_323 : decode cX9_reads 323 = .ok (.iload_n 2, 1) := by decide +kernel
theorem dX9_reads_324 : decode cX9_reads 324 = .ok (.ifCond .le 7, 3) := by decide +kernel
theorem dX9_reads_327 : decode cX9_reads 327 = .ok (.iconst 1, 1) := by decide +kernel
theorem dX9_reads_328 : decode cX9_reads 328 = .ok (.goto 4, 3) := by decide +kernel
theorem dX9_reads_331 : decode cX9_reads 331 = .ok (.iconst 0, 1) := by decide +kernel
theorem dX9_reads_332 : decode cX9_reads 332 = .ok (.ireturn, 1) := by decide +kernel
theorem dX9_fault_0 : decode cX9_fault 0 = .ok (.iload_n 1, 1) := by decide +kernel
theorem dX9_fault_1 : decode cX9_fault 1 = .ok (.iconst 0, 1) := by decide +kernel
theorem dX9_fault_2 : decode cX9_fault 2 = .ok (.iconst 1, 1) := by decide +kernel
theorem dX9_fault_3 : decode cX9_fault 3 = .ok (.invokestatic 32, 3) := by decide +kernel
theorem dX9_fault_6 : decode cX9_fault 6 = .ok (.ifCond .ne 5, 3) := by decide +kernel
theorem dX9_fault_9 : decode cX9_fault 9 = .ok (.iconst (-1), 1) := by decide +kernel
theorem dX9_fault_10 : decode cX9_fault 10 = .ok (.ireturn, 1) := by decide +kernel
theorem dX9_fault_11 : decode cX9_fault 11 = .ok (.aload_n 0, 1) := by decide +kernel
theorem dX9_fault_12 : decode cX9_fault 12 = .ok (.iconst 0, 1) := by decide +kernel
theorem dX9_fault_13 : decode cX9_fault 13 = .ok (.invokevirtual 152, 3) := by decide +kernel
theorem dX9_fault_16 : decode cX9_fault 16 = .ok (.ifCond .ne 8, 3) := by decide +kernel
theorem dX9_fault_19 : decode cX9_fault 19 = .ok (.bipush (-4), 2) := by decide +kernel
theorem dX9_fault_21 : decode cX9_fault 21 = .ok (.goto 18, 3) := by decide +kernel
theorem dX9_fault_24 : decode cX9_fault 24 = .ok (.iload_n 1, 1) := by decide +kernel
theorem dX9_fault_25 : decode cX9_fault 25 = .ok (.ifCond .ne 10, 3) := by decide +kernel
theorem dX9_fault_28 : decode cX9_fault 28 = .ok (.aload_n 0, 1) := by decide +kernel
theorem dX9_fault_29 : decode cX9_fault 29 = .ok (.getfield 146, 3) := by decide +kernel
theorem dX9_fault_32 : decode cX9_fault 32 = .ok (.goto 7, 3) := by decide +kernel
theorem dX9_fault_35 : decode cX9_fault 35 = .ok (.aload_n 0, 1) := by decide +kernel
theorem dX9_fault_36 : decode cX9_fault 36 = .ok (.getfield 149, 3) := by decide +kernel
theorem dX9_fault_39 : decode cX9_fault 39 = .ok (.ireturn, 1) := by decide +kernel
theorem dX9_read_0 : decode cX9_read 0 = .ok (.aload_n 0, 1) := by decide +kernel
theorem dX9_read_1 : decode cX9_read 1 = .ok (.iconst 0, 1) := by decide +kernel
theorem dX9_read_2 : decode cX9_read 2 = .ok (.invokevirtual 152, 3) := by decide +kernel
theorem dX9_read_5 : decode cX9_read 5 = .ok (.ifCond .eq 6, 3) := by decide +kernel
theorem dX9_read_8 : decode cX9_read 8 = .ok (.bipush (-2), 2) := by decide +kernel
theorem dX9_read_10 : decode cX9_read 10 = .ok (.ireturn, 1) := by decide +kernel
theorem dX9_read_11 : decode cX9_read 11 = .ok (.aload_n 0, 1) := by decide +kernel
theorem dX9_read_12 : decode cX9_read 12 = .ok (.invokevirtual 36, 3) := by decide +kernel
theorem dX9_read_15 : decode cX9_read 15 = .ok (.aload_n 0, 1) := by decide +kernel
theorem dX9_read_16 : decode cX9_read 16 = .ok (.iconst 1, 1) := by decide +kernel
theorem dX9_read_17 : decode cX9_read 17 = .ok (.invokevirtual 152, 3) := by decide +kernel
theorem dX9_read_20 : decode cX9_read 20 = .ok (.istore_n 1, 1) := by decide +kernel
theorem dX9_read_21 : decode cX9_read 21 = .ok (.aload_n 0, 1) := by decide +kernel
theorem dX9_read_22 : decode cX9_read 22 = .ok (.getfield 143, 3) := by decide +kernel
theorem dX9_read_25 : decode cX9_read 25 = .ok (.ireturn, 1) := by decide +kernel
theorem dL_law_0 : decode cL_law 0 = .ok (.new 7, 3) := by decide +kernel
theorem dL_law_3 : decode cL_law 3 = .ok (.dup, 1) := by decide +kernel
theorem dL_law_4 : decode cL_law 4 = .ok (.invokespecial 9, 3) := by decide +kernel
theorem dL_law_7 : decode cL_law 7 = .ok (.astore_n 1, 1) := by decide +kernel
theorem dL_law_8 : decode cL_law 8 = .ok (.new 10, 3) := by decide +kernel
theorem dL_law_11 : decode cL_law 11 = .ok (.dup, 1) := by decide +kernel
theorem dL_law_12 : decode cL_law 12 = .ok (.invokespecial 12, 3) := by decide +kernel
theorem dL_law_15 : decode cL_law 15 = .ok (.astore_n 2, 1) := by decide +kernel
theorem dL_law_16 : decode cL_law 16 = .ok (.iconst 0, 1) := by decide +kernel
theorem dL_law_17 : decode cL_law 17 = .ok (.istore_n 3, 1) := by decide +kernel
theorem dL_law_18 : decode cL_law 18 = .ok (.iload_n 3, 1) := by decide +kernel
theorem dL_law_19 : decode cL_law 19 = .ok (.aload_n 0, 1) := by decide +kernel
theorem dL_law_20 : decode cL_law 20 = .ok (.arraylength, 1) := by decide +kernel
theorem dL_law_21 : decode cL_law 21 = .ok (.iconst 4, 1) := by decide +kernel
theorem dL_law_22 : decode cL_law 22 = .ok (.isub, 1) := by decide +kernel
theorem dL_law_23 : decode cL_law 23 = .ok (.if_icmp .gt 685, 3) := by decide +kernel
theorem dL_law_26 : decode cL_law 26 = .ok (.aload_n 0, 1) := by decide +kernel
theorem dL_law_27 : decode cL_law 27 = .ok (.iload_n 3, 1) := by decide +kernel
theorem dL_law_28 : decode cL_law 28 = .ok (.iaload, 1) := by decide +kernel
theorem dL_law_29 : decode cL_law 29 = .ok (.bipush 31, 2) := by decide +kernel
theorem dL_law_31 : decode cL_law 31 = .ok (.iand, 1) := by decide +kernel
theorem dL_law_32 : decode cL_law 32 = .ok (.tableswitch 670 0 21 #[104, 147, 180, 213, 236, 249, 292, 325, 358, 381, 414, 447, 460, 493, 526, 539, 572, 585, 598, 621, 634, 657], 104) := by decide +kernel
theorem dL_law_136 : decode cL_law 136 = .ok (.aload_n 1, 1) := by decide +kernel
theorem dL_law_137 : decode cL_law 137 = .ok (.aload_n 0, 1) := by decide +kernel
theorem dL_law_138 : decode cL_law 138 = .ok (.iload_n 3, 1) := by decide +kernel
theorem dL_law_139 : decode cL_law 139 = .ok (.iconst 1, 1) := by decide +kernel
theorem dL_law_140 : decode cL_law 140 = .ok (.iadd, 1) := by decide +kernel
theorem dL_law_141 : decode cL_law 141 = .ok (.iaload, 1) := by decide +kernel
theorem dL_law_142 : decode cL_law 142 = .ok (.aload_n 0, 1) := by decide +kernel
theorem dL_law_143 : decode cL_law 143 = .ok (.iload_n 3, 1) := by decide +kernel
theorem dL_law_144 : decode cL_law 144 = .ok (.iconst 2, 1) := by decide +kernel
theorem dL_law_145 : decode cL_law 145 = .ok (.iadd, 1) := by decide +kernel
theorem dL_law_146 : decode cL_law 146 = .ok (.iaload, 1) := by decide +kernel
theorem dL_law_147 : decode cL_law 147 = .ok (.aload_n 0, 1) := by decide +kernel
theorem dL_law_148 : decode cL_law 148 = .ok (.iload_n 3, 1) := by decide +kernel
theorem dL_law_149 : decode cL_law 149 = .ok (.iconst 3, 1) := by decide +kernel
theorem dL_law_150 : decode cL_law 150 = .ok (.iadd, 1) := by decide +kernel
theorem dL_law_151 : decode cL_law 151 = .ok (.iaload, 1) := by decide +kernel
theorem dL_law_152 : decode cL_law 152 = .ok (.invokevirtual 13, 3) := by decide +kernel
theorem dL_law_155 : decode cL_law 155 = .ok (.aload_n 2, 1) := by decide +kernel
theorem dL_law_156 : decode cL_law 156 = .ok (.aload_n 0, 1) := by decide +kernel
theorem dL_law_157 : decode cL_law 157 = .ok (.iload_n 3, 1) := by decide +kernel
theorem dL_law_158 : decode cL_law 158 = .ok (.iconst 1, 1) := by decide +kernel
theorem dL_law_159 : decode cL_law 159 = .ok (.iadd, 1) := by decide +kernel
theorem dL_law_160 : decode cL_law 160 = .ok (.iaload, 1) := by decide +kernel
theorem dL_law_161 : decode cL_law 161 = .ok (.aload_n 0, 1) := by decide +kernel
theorem dL_law_162 : decode cL_law 162 = .ok (.iload_n 3, 1) := by decide +kernel
theorem dL_law_163 : decode cL_law 163 = .ok (.iconst 2, 1) := by decide +kernel
theorem dL_law_164 : decode cL_law 164 = .ok (.iadd, 1) := by decide +kernel
theorem dL_law_165 : decode cL_law 165 = .ok (.iaload, 1) := by decide +kernel
theorem dL_law_166 : decode cL_law 166 = .ok (.aload_n 0, 1) := by decide +kernel
theorem dL_law_167 : decode cL_law 167 = .ok (.iload_n 3, 1) := by decide +kernel
theorem dL_law_168 : decode cL_law 168 = .ok (.iconst 3, 1) := by decide +kernel
theorem dL_law_169 : decode cL_law 169 = .ok (.iadd, 1) := by decide +kernel
theorem dL_law_170 : decode cL_law 170 = .ok (.iaload, 1) := by decide +kernel
theorem dL_law_171 : decode cL_law 171 = .ok (.invokevirtual 17, 3) := by decide +kernel
theorem dL_law_174 : decode cL_law 174 = .ok (.if_icmp .eq 528, 3) := by decide +kernel
theorem dL_law_177 : decode cL_law 177 = .ok (.iconst 0, 1) := by decide +kernel
theorem dL_law_178 : decode cL_law 178 = .ok (.ireturn, 1) := by decide +kernel
theorem dL_law_179 : decode cL_law 179 = .ok (.aload_n 1, 1) := by decide +kernel
theorem dL_law_180 : decode cL_law 180 = .ok (.aload_n 0, 1) := by decide +kernel
theorem dL_law_181 : decode cL_law 181 = .ok (.iload_n 3, 1) := by decide +kernel
theorem dL_law_182 : decode cL_law 182 = .ok (.iconst 1, 1) := by decide +kernel
theorem dL_law_183 : decode cL_law 183 = .ok (.iadd, 1) := by decide +kernel
theorem dL_law_184 : decode cL_law 184 = .ok (.iaload, 1) := by decide +kernel
theorem dL_law_185 : decode cL_law 185 = .ok (.aload_n 0, 1) := by decide +kernel
theorem dL_law_186 : decode cL_law 186 = .ok (.iload_n 3, 1) := by decide +kernel
theorem dL_law_187 : decode cL_law 187 = .ok (.iconst 2, 1) := by decide +kernel
theorem dL_law_188 : decode cL_law 188 = .ok (.iadd, 1) := by decide +kernel
theorem dL_law_189 : decode cL_law 189 = .ok (.iaload, 1) := by decide +kernel
theorem dL_law_190 : decode cL_law 190 = .ok (.invokevirtual 18, 3) := by decide +kernel
theorem dL_law_193 : decode cL_law 193 = .ok (.aload_n 2, 1) := by decide +kernel
theorem dL_law_194 : decode cL_law 194 = .ok (.aload_n 0, 1) := by decide +kernel
theorem dL_law_195 : decode cL_law 195 = .ok (.iload_n 3, 1) := by decide +kernel
theorem dL_law_196 : decode cL_law 196 = .ok (.iconst 1, 1) := by decide +kernel
theorem dL_law_197 : decode cL_law 197 = .ok (.iadd, 1) := by decide +kernel
theorem dL_law_198 : decode cL_law 198 = .ok (.iaload, 1) := by decide +kernel
theorem dL_law_199 : decode cL_law 199 = .ok (.aload_n 0, 1) := by decide +kernel
theorem dL_law_200 : decode cL_law 200 = .ok (.iload_n 3, 1) := by decide +kernel
theorem dL_law_201 : decode cL_law 201 = .ok (.iconst 2, 1) := by decide +kernel
theorem dL_law_202 : decode cL_law 202 = .ok (.iadd, 1) := by decide +kernel
theorem dL_law_203 : decode cL_law 203 = .ok (.iaload, 1) := by decide +kernel
theorem dL_law_204 : decode cL_law 204 = .ok (.invokevirtual 22, 3) := by decide +kernel
theorem dL_law_207 : decode cL_law 207 = .ok (.if_icmp .eq 495, 3) := by decide +kernel
theorem dL_law_210 : decode cL_law 210 = .ok (.iconst 0, 1) := by decide +kernel
theorem dL_law_211 : decode cL_law 211 = .ok (.ireturn, 1) := by decide +kernel
theorem dL_law_212 : decode cL_law 212 = .ok (.aload_n 1, 1) := by decide +kernel
theorem dL_law_213 : decode cL_law 213 = .ok (.aload_n 0, 1) := by decide +kernel
theorem dL_law_214 : decode cL_law 214 = .ok (.iload_n 3, 1) := by decide +kernel
theorem dL_law_215 : decode cL_law 215 = .ok (.iconst 1, 1) := by decide +kernel
theorem dL_law_216 : decode cL_law 216 = .ok (.iadd, 1) := by decide +kernel
theorem dL_law_217 : decode cL_law 217 = .ok (.iaload, 1) := by decide +kernel
theorem dL_law_218 : decode cL_law 218 = .ok (.aload_n 0, 1) := by decide +kernel
theorem dL_law_219 : decode cL_law 219 = .ok (.iload_n 3, 1) := by decide +kernel
theorem dL_law_220 : decode cL_law 220 = .ok (.iconst 2, 1) := by decide +kernel
theorem dL_law_221 : decode cL_law 221 = .ok (.iadd, 1) := by decide +kernel
theorem dL_law_222 : decode cL_law 222 = .ok (.iaload, 1) := by decide +kernel
theorem dL_law_223 : decode cL_law 223 = .ok (.invokevirtual 23, 3) := by decide +kernel
theorem dL_law_226 : decode cL_law 226 = .ok (.aload_n 2, 1) := by decide +kernel
theorem dL_law_227 : decode cL_law 227 = .ok (.aload_n 0, 1) := by decide +kernel
theorem dL_law_228 : decode cL_law 228 = .ok (.iload_n 3, 1) := by decide +kernel
theorem dL_law_229 : decode cL_law 229 = .ok (.iconst 1, 1) := by decide +kernel
theorem dL_law_230 : decode cL_law 230 = .ok (.iadd, 1) := by decide +kernel
theorem dL_law_231 : decode cL_law 231 = .ok (.iaload, 1) := by decide +kernel
theorem dL_law_232 : decode cL_law 232 = .ok (.aload_n 0, 1) := by decide +kernel
theorem dL_law_233 : decode cL_law 233 = .ok (.iload_n 3, 1) := by decide +kernel
theorem dL_law_234 : decode cL_law 234 = .ok (.iconst 2, 1) := by decide +kernel
theorem dL_law_235 : decode cL_law 235 = .ok (.iadd, 1) := by decide +kernel
theorem dL_law_236 : decode cL_law 236 = .ok (.iaload, 1) := by decide +kernel
theorem dL_law_237 : decode cL_law 237 = .ok (.invokevirtual 26, 3) := by decide +kernel
theorem dL_law_240 : decode cL_law 240 = .ok (.if_icmp .eq 462, 3) := by decide +kernel
theorem dL_law_243 : decode cL_law 243 = .ok (.iconst 0, 1) := by decide +kernel
theorem dL_law_244 : decode cL_law 244 = .ok (.ireturn, 1) := by decide +kernel
theorem dL_law_245 : decode cL_law 245 = .ok (.aload_n 1, 1) := by decide +kernel
theorem dL_law_246 : decode cL_law 246 = .ok (.aload_n 0, 1) := by decide +kernel
theorem dL_law_247 : decode cL_law 247 = .ok (.iload_n 3, 1) := by decide +kernel
theorem dL_law_248 : decode cL_law 248 = .ok (.iconst 1, 1) := by decide +kernel
theorem dL_law_249 : decode cL_law 249 = .ok (.iadd, 1) := by decide +kernel
theorem dL_law_250 : decode cL_law 250 = .ok (.iaload, 1) := by decide +kernel
theorem dL_law_251 : decode cL_law 251 = .ok (.invokevirtual 27, 3) := by decide +kernel
theorem dL_law_254 : decode cL_law 254 = .ok (.aload_n 2, 1) := by decide +kernel
theorem dL_law_255 : decode cL_law 255 = .ok (.aload_n 0, 1) := by decide +kernel
theorem dL_law_256 : decode cL_law 256 = .ok (.iload_n 3, 1) := by decide +kernel
theorem dL_law_257 : decode cL_law 257 = .ok (.iconst 1, 1) := by decide +kernel
theorem dL_law_258 : decode cL_law 258 = .ok (.iadd, 1) := by decide +kernel
theorem dL_law_259 : decode cL_law 259 = .ok (.iaload, 1) := by decide +kernel
theorem dL_law_260 : decode cL_law 260 = .ok (.invokevirtual 31, 3) := by decide +kernel
theorem dL_law_263 : decode cL_law 263 = .ok (.if_icmp .eq 439, 3) := by decide +kernel
theorem dL_law_266 : decode cL_law 266 = .ok (.iconst 0, 1) := by decide +kernel
theorem dL_law_267 : decode cL_law 267 = .ok (.ireturn, 1) := by decide +kernel
theorem dL_law_268 : decode cL_law 268 = .ok (.aload_n 1, 1) := by decide +kernel
theorem dL_law_269 : decode cL_law 269 = .ok (.invokevirtual 32, 3) := by decide +kernel
theorem dL_law_272 : decode cL_law 272 = .ok (.aload_n 2, 1) := by decide +kernel
theorem dL_law_273 : decode cL_law 273 = .ok (.invokevirtual 36, 3) := by decide +kernel
theorem dL_law_276 : decode cL_law 276 = .ok (.if_icmp .eq 426, 3) := by decide +kernel
theorem dL_law_279 : decode cL_law 279 = .ok (.iconst 0, 1) := by decide +kernel
theorem dL_law_280 : decode cL_law 280 = .ok (.ireturn, 1) := by decide +kernel
theorem dL_law_281 : decode cL_law 281 = .ok (.aload_n 1, 1) := by decide +kernel
theorem dL_law_282 : decode cL_law 282 = .ok (.aload_n 0, 1) := by decide +kernel
theorem dL_law_283 : decode cL_law 283 = .ok (.iload_n 3, 1) := by decide +kernel
theorem dL_law_284 : decode cL_law 284 = .ok (.iconst 1, 1) := by decide +kernel
theorem dL_law_285 : decode cL_law 285 = .ok (.iadd, 1) := by decide +kernel
theorem dL_law_286 : decode cL_law 286 = .ok (.iaload, 1) := by decide +kernel
theorem dL_law_287 : decode cL_law 287 = .ok (.aload_n 0, 1) := by decide +kernel
theorem dL_law_288 : decode cL_law 288 = .ok (.iload_n 3, 1) := by decide +kernel
theorem dL_law_289 : decode cL_law 289 = .ok (.iconst 2, 1) := by decide +kernel
theorem dL_law_290 : decode cL_law 290 = .ok (.iadd, 1) := by decide +kernel
theorem dL_law_291 : decode cL_law 291 = .ok (.iaload, 1) := by decide +kernel
theorem dL_law_292 : decode cL_law 292 = .ok (.aload_n 0, 1) := by decide +kernel
theorem dL_law_293 : decode cL_law 293 = .ok (.iload_n 3, 1) := by decide +kernel
theorem dL_law_294 : decode cL_law 294 = .ok (.iconst 3, 1) := by decide +kernel
theorem dL_law_295 : decode cL_law 295 = .ok (.iadd, 1) := by decide +kernel
theorem dL_law_296 : decode cL_law 296 = .ok (.iaload, 1) := by decide +kernel
theorem dL_law_297 : decode cL_law 297 = .ok (.invokevirtual 37, 3) := by decide +kernel
theorem dL_law_300 : decode cL_law 300 = .ok (.aload_n 2, 1) := by decide +kernel
theorem dL_law_301 : decode cL_law 301 = .ok (.aload_n 0, 1) := by decide +kernel
theorem dL_law_302 : decode cL_law 302 = .ok (.iload_n 3, 1) := by decide +kernel
theorem dL_law_303 : decode cL_law 303 = .ok (.iconst 1, 1) := by decide +kernel
theorem dL_law_304 : decode cL_law 304 = .ok (.iadd, 1) := by decide +kernel
theorem dL_law_305 : decode cL_law 305 = .ok (.iaload, 1) := by decide +kernel
theorem dL_law_306 : decode cL_law 306 = .ok (.aload_n 0, 1) := by decide +kernel
theorem dL_law_307 : decode cL_law 307 = .ok (.iload_n 3, 1) := by decide +kernel
theorem dL_law_308 : decode cL_law 308 = .ok (.iconst 2, 1) := by decide +kernel
theorem dL_law_309 : decode cL_law 309 = .ok (.iadd, 1) := by decide +kernel
theorem dL_law_310 : decode cL_law 310 = .ok (.iaload, 1) := by decide +kernel
theorem dL_law_311 : decode cL_law 311 = .ok (.aload_n 0, 1) := by decide +kernel
theorem dL_law_312 : decode cL_law 312 = .ok (.iload_n 3, 1) := by decide +kernel
theorem dL_law_313 : decode cL_law 313 = .ok (.iconst 3, 1) := by decide +kernel
theorem dL_law_314 : decode cL_law 314 = .ok (.iadd, 1) := by decide +kernel
theorem dL_law_315 : decode cL_law 315 = .ok (.iaload, 1) := by decide +kernel
theorem dL_law_316 : decode cL_law 316 = .ok (.invokevirtual 40, 3) := by decide +kernel
theorem dL_law_319 : decode cL_law 319 = .ok (.if_icmp .eq 383, 3) := by decide +kernel
theorem dL_law_322 : decode cL_law 322 = .ok (.iconst 0, 1) := by decide +kernel
theorem dL_law_323 : decode cL_law 323 = .ok (.ireturn, 1) := by decide +kernel
theorem dL_law_324 : decode cL_law 324 = .ok (.aload_n 1, 1) := by decide +kernel
theorem dL_law_325 : decode cL_law 325 = .ok (.aload_n 0, 1) := by decide +kernel
theorem dL_law_326 : decode cL_law 326 = .ok (.iload_n 3, 1) := by decide +kernel
theorem dL_law_327 : decode cL_law 327 = .ok (.iconst 1, 1) := by decide +kernel
theorem dL_law_328 : decode cL_law 328 = .ok (.iadd, 1) := by decide +kernel
theorem dL_law_329 : decode cL_law 329 = .ok (.iaload, 1) := by decide +kernel
theorem dL_law_330 : decode cL_law 330 = .ok (.aload_n 0, 1) := by decide +kernel
theorem dL_law_331 : decode cL_law 331 = .ok (.iload_n 3, 1) := by decide +kernel
theorem dL_law_332 : decode cL_law 332 = .ok (.iconst 2, 1) := by decide +kernel
theorem dL_law_333 : decode cL_law 333 = .ok (.iadd, 1) := by decide +kernel
theorem dL_law_334 : decode cL_law 334 = .ok (.iaload, 1) := by decide +kernel
theorem dL_law_335 : decode cL_law 335 = .ok (.invokevirtual 41, 3) := by decide +kernel
theorem dL_law_338 : decode cL_law 338 = .ok (.aload_n 2, 1) := by decide +kernel
theorem dL_law_339 : decode cL_law 339 = .ok (.aload_n 0, 1) := by decide +kernel
theorem dL_law_340 : decode cL_law 340 = .ok (.iload_n 3, 1) := by decide +kernel
theorem dL_law_341 : decode cL_law 341 = .ok (.iconst 1, 1) := by decide +kernel
theorem dL_law_342 : decode cL_law 342 = .ok (.iadd, 1) := by decide +kernel
theorem dL_law_343 : decode cL_law 343 = .ok (.iaload, 1) := by decide +kernel
theorem dL_law_344 : decode cL_law 344 = .ok (.aload_n 0, 1) := by decide +kernel
theorem dL_law_345 : decode cL_law 345 = .ok (.iload_n 3, 1) := by decide +kernel
theorem dL_law_346 : decode cL_law 346 = .ok (.iconst 2, 1) := by decide +kernel
theorem dL_law_347 : decode cL_law 347 = .ok (.iadd, 1) := by decide +kernel
theorem dL_law_348 : decode cL_law 348 = .ok (.iaload, 1) := by decide +kernel
theorem dL_law_349 : decode cL_law 349 = .ok (.invokevirtual 44, 3) := by decide +kernel
theorem dL_law_352 : decode cL_law 352 = .ok (.if_icmp .eq 350, 3) := by decide +kernel
theorem dL_law_355 : decode cL_law 355 = .ok (.iconst 0, 1) := by decide +kernel
theorem dL_law_356 : decode cL_law 356 = .ok (.ireturn, 1) := by decide +kernel
theorem dL_law_357 : decode cL_law 357 = .ok (.aload_n 1, 1) := by decide +kernel
theorem dL_law_358 : decode cL_law 358 = .ok (.aload_n 0, 1) := by decide +kernel
theorem dL_law_359 : decode cL_law 359 = .ok (.iload_n 3, 1) := by decide +kernel
theorem dL_law_360 : decode cL_law 360 = .ok (.iconst 1, 1) := by decide +kernel
theorem dL_law_361 : decode cL_law 361 = .ok (.iadd, 1) := by decide +kernel
theorem dL_law_362 : decode cL_law 362 = .ok (.iaload, 1) := by decide +kernel
theorem dL_law_363 : decode cL_law 363 = .ok (.aload_n 0, 1) := by decide +kernel
theorem dL_law_364 : decode cL_law 364 = .ok (.iload_n 3, 1) := by decide +kernel
theorem dL_law_365 : decode cL_law 365 = .ok (.iconst 2, 1) := by decide +kernel
theorem dL_law_366 : decode cL_law 366 = .ok (.iadd, 1) := by decide +kernel
theorem dL_law_367 : decode cL_law 367 = .ok (.iaload, 1) := by decide +kernel
theorem dL_law_368 : decode cL_law 368 = .ok (.invokevirtual 45, 3) := by decide +kernel
theorem dL_law_371 : decode cL_law 371 = .ok (.aload_n 2, 1) := by decide +kernel
theorem dL_law_372 : decode cL_law 372 = .ok (.aload_n 0, 1) := by decide +kernel
theorem dL_law_373 : decode cL_law 373 = .ok (.iload_n 3, 1) := by decide +kernel
theorem dL_law_374 : decode cL_law 374 = .ok (.iconst 1, 1) := by decide +kernel
theorem dL_law_375 : decode cL_law 375 = .ok (.iadd, 1) := by decide +kernel
theorem dL_law_376 : decode cL_law 376 = .ok (.iaload, 1) := by decide +kernel
theorem dL_law_377 : decode cL_law 377 = .ok (.aload_n 0, 1) := by decide +kernel
theorem dL_law_378 : decode cL_law 378 = .ok (.iload_n 3, 1) := by decide +kernel
theorem dL_law_379 : decode cL_law 379 = .ok (.iconst 2, 1) := by decide +kernel
theorem dL_law_380 : decode cL_law 380 = .ok (.iadd, 1) := by decide +kernel
theorem dL_law_381 : decode cL_law 381 = .ok (.iaload, 1) := by decide +kernel
theorem dL_law_382 : decode cL_law 382 = .ok (.invokevirtual 48, 3) := by decide +kernel
theorem dL_law_385 : decode cL_law 385 = .ok (.if_icmp .eq 317, 3) := by decide +kernel
theorem dL_law_388 : decode cL_law 388 = .ok (.iconst 0, 1) := by decide +kernel
theorem dL_law_389 : decode cL_law 389 = .ok (.ireturn, 1) := by decide +kernel
theorem dL_law_390 : decode cL_law 390 = .ok (.aload_n 1, 1) := by decide +kernel
theorem dL_law_391 : decode cL_law 391 = .ok (.aload_n 0, 1) := by decide +kernel
theorem dL_law_392 : decode cL_law 392 = .ok (.iload_n 3, 1) := by decide +kernel
theorem dL_law_393 : decode cL_law 393 = .ok (.iconst 1, 1) := by decide +kernel
theorem dL_law_394 : decode cL_law 394 = .ok (.iadd, 1) := by decide +kernel
theorem dL_law_395 : decode cL_law 395 = .ok (.iaload, 1) := by decide +kernel
theorem dL_law_396 : decode cL_law 396 = .ok (.invokevirtual 49, 3) := by decide +kernel
theorem dL_law_399 : decode cL_law 399 = .ok (.aload_n 2, 1) := by decide +kernel
theorem dL_law_400 : decode cL_law 400 = .ok (.aload_n 0, 1) := by decide +kernel
theorem dL_law_401 : decode cL_law 401 = .ok (.iload_n 3, 1) := by decide +kernel
theorem dL_law_402 : decode cL_law 402 = .ok (.iconst 1, 1) := by decide +kernel
theorem dL_law_403 : decode cL_law 403 = .ok (.iadd, 1) := by decide +kernel
theorem dL_law_404 : decode cL_law 404 = .ok (.iaload, 1) := by decide +kernel
theorem dL_law_405 : decode cL_law 405 = .ok (.invokevirtual 52, 3) := by decide +kernel
theorem dL_law_408 : decode cL_law 408 = .ok (.if_icmp .eq 294, 3) := by decide +kernel
theorem dL_law_411 : decode cL_law 411 = .ok (.iconst 0, 1) := by decide +kernel
theorem dL_law_412 : decode cL_law 412 = .ok (.ireturn, 1) := by decide +kernel
theorem dL_law_413 : decode cL_law 413 = .ok (.aload_n 1, 1) := by decide +kernel
theorem dL_law_414 : decode cL_law 414 = .ok (.aload_n 0, 1) := by decide +kernel
theorem dL_law_415 : decode cL_law 415 = .ok (.iload_n 3, 1) := by decide +kernel
theorem dL_law_416 : decode cL_law 416 = .ok (.iconst 1, 1) := by decide +kernel
theorem dL_law_417 : decode cL_law 417 = .ok (.iadd, 1) := by decide +kernel
theorem dL_law_418 : decode cL_law 418 = .ok (.iaload, 1) := by decide +kernel
theorem dL_law_419 : decode cL_law 419 = .ok (.aload_n 0, 1) := by decide +kernel
theorem dL_law_420 : decode cL_law 420 = .ok (.iload_n 3, 1) := by decide +kernel
theorem dL_law_421 : decode cL_law 421 = .ok (.iconst 2, 1) := by decide +kernel
theorem dL_law_422 : decode cL_law 422 = .ok (.iadd, 1) := by decide +kernel
theorem dL_law_423 : decode cL_law 423 = .ok (.iaload, 1) := by decide +kernel
theorem dL_law_424 : decode cL_law 424 = .ok (.invokevirtual 53, 3) := by decide +kernel
theorem dL_law_427 : decode cL_law 427 = .ok (.aload_n 2, 1) := by decide +kernel
theorem dL_law_428 : decode cL_law 428 = .ok (.aload_n 0, 1) := by decide +kernel
theorem dL_law_429 : decode cL_law 429 = .ok (.iload_n 3, 1) := by decide +kernel
theorem dL_law_430 : decode cL_law 430 = .ok (.iconst 1, 1) := by decide +kernel
theorem dL_law_431 : decode cL_law 431 = .ok (.iadd, 1) := by decide +kernel
theorem dL_law_432 : decode cL_law 432 = .ok (.iaload, 1) := by decide +kernel
theorem dL_law_433 : decode cL_law 433 = .ok (.aload_n 0, 1) := by decide +kernel
theorem dL_law_434 : decode cL_law 434 = .ok (.iload_n 3, 1) := by decide +kernel
theorem dL_law_435 : decode cL_law 435 = .ok (.iconst 2, 1) := by decide +kernel
theorem dL_law_436 : decode cL_law 436 = .ok (.iadd, 1) := by decide +kernel
theorem dL_law_437 : decode cL_law 437 = .ok (.iaload, 1) := by decide +kernel
theorem dL_law_438 : decode cL_law 438 = .ok (.invokevirtual 56, 3) := by decide +kernel
theorem dL_law_441 : decode cL_law 441 = .ok (.if_icmp .eq 261, 3) := by decide +kernel
theorem dL_law_444 : decode cL_law 444 = .ok (.iconst 0, 1) := by decide +kernel
theorem dL_law_445 : decode cL_law 445 = .ok (.ireturn, 1) := by decide +kernel
theorem dL_law_446 : decode cL_law 446 = .ok (.aload_n 1, 1) := by decide +kernel
theorem dL_law_447 : decode cL_law 447 = .ok (.aload_n 0, 1) := by decide +kernel
theorem dL_law_448 : decode cL_law 448 = .ok (.iload_n 3, 1) := by decide +kernel
theorem dL_law_449 : decode cL_law 449 = .ok (.iconst 1, 1) := by decide +kernel
theorem dL_law_450 : decode cL_law 450 = .ok (.iadd, 1) := by decide +kernel
theorem dL_law_451 : decode cL_law 451 = .ok (.iaload, 1) := by decide +kernel
theorem dL_law_452 : decode cL_law 452 = .ok (.aload_n 0, 1) := by decide +kernel
theorem dL_law_453 : decode cL_law 453 = .ok (.iload_n 3, 1) := by decide +kernel
theorem dL_law_454 : decode cL_law 454 = .ok (.iconst 2, 1) := by decide +kernel
theorem dL_law_455 : decode cL_law 455 = .ok (.iadd, 1) := by decide +kernel
theorem dL_law_456 : decode cL_law 456 = .ok (.iaload, 1) := by decide +kernel
theorem dL_law_457 : decode cL_law 457 = .ok (.invokevirtual 57, 3) := by decide +kernel
theorem dL_law_460 : decode cL_law 460 = .ok (.aload_n 2, 1) := by decide +kernel
theorem dL_law_461 : decode cL_law 461 = .ok (.aload_n 0, 1) := by decide +kernel
theorem dL_law_462 : decode cL_law 462 = .ok (.iload_n 3, 1) := by decide +kernel
theorem dL_law_463 : decode cL_law 463 = .ok (.iconst 1, 1) := by decide +kernel
theorem dL_law_464 : decode cL_law 464 = .ok (.iadd, 1) := by decide +kernel
theorem dL_law_465 : decode cL_law 465 = .ok (.iaload, 1) := by decide +kernel
theorem dL_law_466 : decode cL_law 466 = .ok (.aload_n 0, 1) := by decide +kernel
theorem dL_law_467 : decode cL_law 467 = .ok (.iload_n 3, 1) := by decide +kernel
theorem dL_law_468 : decode cL_law 468 = .ok (.iconst 2, 1) := by decide +kernel
theorem dL_law_469 : decode cL_law 469 = .ok (.iadd, 1) := by decide +kernel
theorem dL_law_470 : decode cL_law 470 = .ok (.iaload, 1) := by decide +kernel
theorem dL_law_471 : decode cL_law 471 = .ok (.invokevirtual 60, 3) := by decide +kernel
theorem dL_law_474 : decode cL_law 474 = .ok (.if_icmp .eq 228, 3) := by decide +kernel
theorem dL_law_477 : decode cL_law 477 = .ok (.iconst 0, 1) := by decide +kernel
theorem dL_law_478 : decode cL_law 478 = .ok (.ireturn, 1) := by decide +kernel
theorem dL_law_479 : decode cL_law 479 = .ok (.aload_n 1, 1) := by decide +kernel
theorem dL_law_480 : decode cL_law 480 = .ok (.invokevirtual 61, 3) := by decide +kernel
theorem dL_law_483 : decode cL_law 483 = .ok (.aload_n 2, 1) := by decide +kernel
theorem dL_law_484 : decode cL_law 484 = .ok (.invokevirtual 64, 3) := by decide +kernel
theorem dL_law_487 : decode cL_law 487 = .ok (.if_icmp .eq 215, 3) := by decide +kernel
theorem dL_law_490 : decode cL_law 490 = .ok (.iconst 0, 1) := by decide +kernel
theorem dL_law_491 : decode cL_law 491 = .ok (.ireturn, 1) := by decide +kernel
theorem dL_law_492 : decode cL_law 492 = .ok (.aload_n 1, 1) := by decide +kernel
theorem dL_law_493 : decode cL_law 493 = .ok (.aload_n 0, 1) := by decide +kernel
theorem dL_law_494 : decode cL_law 494 = .ok (.iload_n 3, 1) := by decide +kernel
theorem dL_law_495 : decode cL_law 495 = .ok (.iconst 1, 1) := by decide +kernel
theorem dL_law_496 : decode cL_law 496 = .ok (.iadd, 1) := by decide +kernel
theorem dL_law_497 : decode cL_law 497 = .ok (.iaload, 1) := by decide +kernel
theorem dL_law_498 : decode cL_law 498 = .ok (.aload_n 0, 1) := by decide +kernel
theorem dL_law_499 : decode cL_law 499 = .ok (.iload_n 3, 1) := by decide +kernel
theorem dL_law_500 : decode cL_law 500 = .ok (.iconst 2, 1) := by decide +kernel
theorem dL_law_501 : decode cL_law 501 = .ok (.iadd, 1) := by decide +kernel
theorem dL_law_502 : decode cL_law 502 = .ok (.iaload, 1) := by decide +kernel
theorem dL_law_503 : decode cL_law 503 = .ok (.invokevirtual 65, 3) := by decide +kernel
theorem dL_law_506 : decode cL_law 506 = .ok (.aload_n 2, 1) := by decide +kernel
theorem dL_law_507 : decode cL_law 507 = .ok (.aload_n 0, 1) := by decide +kernel
theorem dL_law_508 : decode cL_law 508 = .ok (.iload_n 3, 1) := by decide +kernel
theorem dL_law_509 : decode cL_law 509 = .ok (.iconst 1, 1) := by decide +kernel
theorem dL_law_510 : decode cL_law 510 = .ok (.iadd, 1) := by decide +kernel
theorem dL_law_511 : decode cL_law 511 = .ok (.iaload, 1) := by decide +kernel
theorem dL_law_512 : decode cL_law 512 = .ok (.aload_n 0, 1) := by decide +kernel
theorem dL_law_513 : decode cL_law 513 = .ok (.iload_n 3, 1) := by decide +kernel
theorem dL_law_514 : decode cL_law 514 = .ok (.iconst 2, 1) := by decide +kernel
theorem dL_law_515 : decode cL_law 515 = .ok (.iadd, 1) := by decide +kernel
theorem dL_law_516 : decode cL_law 516 = .ok (.iaload, 1) := by decide +kernel
theorem dL_law_517 : decode cL_law 517 = .ok (.invokevirtual 68, 3) := by decide +kernel
theorem dL_law_520 : decode cL_law 520 = .ok (.if_icmp .eq 182, 3) := by decide +kernel
theorem dL_law_523 : decode cL_law 523 = .ok (.iconst 0, 1) := by decide +kernel
theorem dL_law_524 : decode cL_law 524 = .ok (.ireturn, 1) := by decide +kernel
theorem dL_law_525 : decode cL_law 525 = .ok (.aload_n 1, 1) := by decide +kernel
theorem dL_law_526 : decode cL_law 526 = .ok (.aload_n 0, 1) := by decide +kernel
theorem dL_law_527 : decode cL_law 527 = .ok (.iload_n 3, 1) := by decide +kernel
theorem dL_law_528 : decode cL_law 528 = .ok (.iconst 1, 1) := by decide +kernel
theorem dL_law_529 : decode cL_law 529 = .ok (.iadd, 1) := by decide +kernel
theorem dL_law_530 : decode cL_law 530 = .ok (.iaload, 1) := by decide +kernel
theorem dL_law_531 : decode cL_law 531 = .ok (.aload_n 0, 1) := by decide +kernel
theorem dL_law_532 : decode cL_law 532 = .ok (.iload_n 3, 1) := by decide +kernel
theorem dL_law_533 : decode cL_law 533 = .ok (.iconst 2, 1) := by decide +kernel
theorem dL_law_534 : decode cL_law 534 = .ok (.iadd, 1) := by decide +kernel
theorem dL_law_535 : decode cL_law 535 = .ok (.iaload, 1) := by decide +kernel
theorem dL_law_536 : decode cL_law 536 = .ok (.invokevirtual 69, 3) := by decide +kernel
theorem dL_law_539 : decode cL_law 539 = .ok (.aload_n 2, 1) := by decide +kernel
theorem dL_law_540 : decode cL_law 540 = .ok (.aload_n 0, 1) := by decide +kernel
theorem dL_law_541 : decode cL_law 541 = .ok (.iload_n 3, 1) := by decide +kernel
theorem dL_law_542 : decode cL_law 542 = .ok (.iconst 1, 1) := by decide +kernel
theorem dL_law_543 : decode cL_law 543 = .ok (.iadd, 1) := by decide +kernel
theorem dL_law_544 : decode cL_law 544 = .ok (.iaload, 1) := by decide +kernel
theorem dL_law_545 : decode cL_law 545 = .ok (.aload_n 0, 1) := by decide +kernel
theorem dL_law_546 : decode cL_law 546 = .ok (.iload_n 3, 1) := by decide +kernel
theorem dL_law_547 : decode cL_law 547 = .ok (.iconst 2, 1) := by decide +kernel
theorem dL_law_548 : decode cL_law 548 = .ok (.iadd, 1) := by decide +kernel
theorem dL_law_549 : decode cL_law 549 = .ok (.iaload, 1) := by decide +kernel
theorem dL_law_550 : decode cL_law 550 = .ok (.invokevirtual 72, 3) := by decide +kernel
theorem dL_law_553 : decode cL_law 553 = .ok (.if_icmp .eq 149, 3) := by decide +kernel
theorem dL_law_556 : decode cL_law 556 = .ok (.iconst 0, 1) := by decide +kernel
theorem dL_law_557 : decode cL_law 557 = .ok (.ireturn, 1) := by decide +kernel
theorem dL_law_558 : decode cL_law 558 = .ok (.aload_n 1, 1) := by decide +kernel
theorem dL_law_559 : decode cL_law 559 = .ok (.invokevirtual 73, 3) := by decide +kernel
theorem dL_law_562 : decode cL_law 562 = .ok (.aload_n 2, 1) := by decide +kernel
theorem dL_law_563 : decode cL_law 563 = .ok (.invokevirtual 76, 3) := by decide +kernel
theorem dL_law_566 : decode cL_law 566 = .ok (.if_icmp .eq 136, 3) := by decide +kernel
theorem dL_law_569 : decode cL_law 569 = .ok (.iconst 0, 1) := by decide +kernel
theorem dL_law_570 : decode cL_law 570 = .ok (.ireturn, 1) := by decide +kernel
theorem dL_law_571 : decode cL_law 571 = .ok (.aload_n 1, 1) := by decide +kernel
theorem dL_law_572 : decode cL_law 572 = .ok (.aload_n 0, 1) := by decide +kernel
theorem dL_law_573 : decode cL_law 573 = .ok (.iload_n 3, 1) := by decide +kernel
theorem dL_law_574 : decode cL_law 574 = .ok (.iconst 1, 1) := by decide +kernel
theorem dL_law_575 : decode cL_law 575 = .ok (.iadd, 1) := by decide +kernel
theorem dL_law_576 : decode cL_law 576 = .ok (.iaload, 1) := by decide +kernel
theorem dL_law_577 : decode cL_law 577 = .ok (.aload_n 0, 1) := by decide +kernel
theorem dL_law_578 : decode cL_law 578 = .ok (.iload_n 3, 1) := by decide +kernel
theorem dL_law_579 : decode cL_law 579 = .ok (.iconst 2, 1) := by decide +kernel
theorem dL_law_580 : decode cL_law 580 = .ok (.iadd, 1) := by decide +kernel
theorem dL_law_581 : decode cL_law 581 = .ok (.iaload, 1) := by decide +kernel
theorem dL_law_582 : decode cL_law 582 = .ok (.invokevirtual 77, 3) := by decide +kernel
theorem dL_law_585 : decode cL_law 585 = .ok (.aload_n 2, 1) := by decide +kernel
theorem dL_law_586 : decode cL_law 586 = .ok (.aload_n 0, 1) := by decide +kernel
theorem dL_law_587 : decode cL_law 587 = .ok (.iload_n 3, 1) := by decide +kernel
theorem dL_law_588 : decode cL_law 588 = .ok (.iconst 1, 1) := by decide +kernel
theorem dL_law_589 : decode cL_law 589 = .ok (.iadd, 1) := by decide +kernel
theorem dL_law_590 : decode cL_law 590 = .ok (.iaload, 1) := by decide +kernel
theorem dL_law_591 : decode cL_law 591 = .ok (.aload_n 0, 1) := by decide +kernel
theorem dL_law_592 : decode cL_law 592 = .ok (.iload_n 3, 1) := by decide +kernel
theorem dL_law_593 : decode cL_law 593 = .ok (.iconst 2, 1) := by decide +kernel
theorem dL_law_594 : decode cL_law 594 = .ok (.iadd, 1) := by decide +kernel
theorem dL_law_595 : decode cL_law 595 = .ok (.iaload, 1) := by decide +kernel
theorem dL_law_596 : decode cL_law 596 = .ok (.invokevirtual 80, 3) := by decide +kernel
theorem dL_law_599 : decode cL_law 599 = .ok (.if_icmp .eq 103, 3) := by decide +kernel
theorem dL_law_602 : decode cL_law 602 = .ok (.iconst 0, 1) := by decide +kernel
theorem dL_law_603 : decode cL_law 603 = .ok (.ireturn, 1) := by decide +kernel
theorem dL_law_604 : decode cL_law 604 = .ok (.aload_n 1, 1) := by decide +kernel
theorem dL_law_605 : decode cL_law 605 = .ok (.invokevirtual 81, 3) := by decide +kernel
theorem dL_law_608 : decode cL_law 608 = .ok (.aload_n 2, 1) := by decide +kernel
theorem dL_law_609 : decode cL_law 609 = .ok (.invokevirtual 84, 3) := by decide +kernel
theorem dL_law_612 : decode cL_law 612 = .ok (.if_icmp .eq 90, 3) := by decide +kernel
theorem dL_law_615 : decode cL_law 615 = .ok (.iconst 0, 1) := by decide +kernel
theorem dL_law_616 : decode cL_law 616 = .ok (.ireturn, 1) := by decide +kernel
theorem dL_law_617 : decode cL_law 617 = .ok (.aload_n 1, 1) := by decide +kernel
theorem dL_law_618 : decode cL_law 618 = .ok (.invokevirtual 85, 3) := by decide +kernel
theorem dL_law_621 : decode cL_law 621 = .ok (.aload_n 2, 1) := by decide +kernel
theorem dL_law_622 : decode cL_law 622 = .ok (.invokevirtual 88, 3) := by decide +kernel
theorem dL_law_625 : decode cL_law 625 = .ok (.if_icmp .eq 77, 3) := by decide +kernel
theorem dL_law_628 : decode cL_law 628 = .ok (.iconst 0, 1) := by decide +kernel
theorem dL_law_629 : decode cL_law 629 = .ok (.ireturn, 1) := by decide +kernel
theorem dL_law_630 : decode cL_law 630 = .ok (.aload_n 1, 1) := by decide +kernel
theorem dL_law_631 : decode cL_law 631 = .ok (.aload_n 0, 1) := by decide +kernel
theorem dL_law_632 : decode cL_law 632 = .ok (.iload_n 3, 1) := by decide +kernel
theorem dL_law_633 : decode cL_law 633 = .ok (.iconst 1, 1) := by decide +kernel
theorem dL_law_634 : decode cL_law 634 = .ok (.iadd, 1) := by decide +kernel
theorem dL_law_635 : decode cL_law 635 = .ok (.iaload, 1) := by decide +kernel
theorem dL_law_636 : decode cL_law 636 = .ok (.invokevirtual 89, 3) := by decide +kernel
theorem dL_law_639 : decode cL_law 639 = .ok (.aload_n 2, 1) := by decide +kernel
theorem dL_law_640 : decode cL_law 640 = .ok (.aload_n 0, 1) := by decide +kernel
theorem dL_law_641 : decode cL_law 641 = .ok (.iload_n 3, 1) := by decide +kernel
theorem dL_law_642 : decode cL_law 642 = .ok (.iconst 1, 1) := by decide +kernel
theorem dL_law_643 : decode cL_law 643 = .ok (.iadd, 1) := by decide +kernel
theorem dL_law_644 : decode cL_law 644 = .ok (.iaload, 1) := by decide +kernel
theorem dL_law_645 : decode cL_law 645 = .ok (.invokevirtual 92, 3) := by decide +kernel
theorem dL_law_648 : decode cL_law 648 = .ok (.if_icmp .eq 54, 3) := by decide +kernel
theorem dL_law_651 : decode cL_law 651 = .ok (.iconst 0, 1) := by decide +kernel
theorem dL_law_652 : decode cL_law 652 = .ok (.ireturn, 1) := by decide +kernel
theorem dL_law_653 : decode cL_law 653 = .ok (.aload_n 1, 1) := by decide +kernel
theorem dL_law_654 : decode cL_law 654 = .ok (.invokevirtual 93, 3) := by decide +kernel
theorem dL_law_657 : decode cL_law 657 = .ok (.aload_n 2, 1) := by decide +kernel
theorem dL_law_658 : decode cL_law 658 = .ok (.invokevirtual 96, 3) := by decide +kernel
theorem dL_law_661 : decode cL_law 661 = .ok (.if_icmp .eq 41, 3) := by decide +kernel
theorem dL_law_664 : decode cL_law 664 = .ok (.iconst 0, 1) := by decide +kernel
theorem dL_law_665 : decode cL_law 665 = .ok (.ireturn, 1) := by decide +kernel
theorem dL_law_666 : decode cL_law 666 = .ok (.aload_n 1, 1) := by decide +kernel
theorem dL_law_667 : decode cL_law 667 = .ok (.aload_n 0, 1) := by decide +kernel
theorem dL_law_668 : decode cL_law 668 = .ok (.iload_n 3, 1) := by decide +kernel
theorem dL_law_669 : decode cL_law 669 = .ok (.iconst 1, 1) := by decide +kernel
theorem dL_law_670 : decode cL_law 670 = .ok (.iadd, 1) := by decide +kernel
theorem dL_law_671 : decode cL_law 671 = .ok (.iaload, 1) := by decide +kernel
theorem dL_law_672 : decode cL_law 672 = .ok (.invokevirtual 97, 3) := by decide +kernel
theorem dL_law_675 : decode cL_law 675 = .ok (.aload_n 2, 1) := by decide +kernel
theorem dL_law_676 : decode cL_law 676 = .ok (.aload_n 0, 1) := by decide +kernel
theorem dL_law_677 : decode cL_law 677 = .ok (.iload_n 3, 1) := by decide +kernel
theorem dL_law_678 : decode cL_law 678 = .ok (.iconst 1, 1) := by decide +kernel
theorem dL_law_679 : decode cL_law 679 = .ok (.iadd, 1) := by decide +kernel
theorem dL_law_680 : decode cL_law 680 = .ok (.iaload, 1) := by decide +kernel
theorem dL_law_681 : decode cL_law 681 = .ok (.invokevirtual 100, 3) := by decide +kernel
theorem dL_law_684 : decode cL_law 684 = .ok (.if_icmp .eq 18, 3) := by decide +kernel
theorem dL_law_687 : decode cL_law 687 = .ok (.iconst 0, 1) := by decide +kernel
theorem dL_law_688 : decode cL_law 688 = .ok (.ireturn, 1) := by decide +kernel
theorem dL_law_689 : decode cL_law 689 = .ok (.aload_n 1, 1) := by decide +kernel
theorem dL_law_690 : decode cL_law 690 = .ok (.invokevirtual 101, 3) := by decide +kernel
theorem dL_law_693 : decode cL_law 693 = .ok (.aload_n 2, 1) := by decide +kernel
theorem dL_law_694 : decode cL_law 694 = .ok (.invokevirtual 104, 3) := by decide +kernel
theorem dL_law_697 : decode cL_law 697 = .ok (.if_icmp .eq 5, 3) := by decide +kernel
theorem dL_law_700 : decode cL_law 700 = .ok (.iconst 0, 1) := by decide +kernel
theorem dL_law_701 : decode cL_law 701 = .ok (.ireturn, 1) := by decide +kernel
theorem dL_law_702 : decode cL_law 702 = .ok (.iinc 3 4, 3) := by decide +kernel
theorem dL_law_705 : decode cL_law 705 = .ok (.goto (-687), 3) := by decide +kernel
theorem dL_law_708 : decode cL_law 708 = .ok (.iconst 1, 1) := by decide +kernel
theorem dL_law_709 : decode cL_law 709 = .ok (.ireturn, 1) := by decide +kernel
