theorem d_Mo_told_31 : decode b_Mo_told 31 = .ok (.iaload, 1) := by decide +kernel
theorem d_Mo_told_32 : decode b_Mo_told 32 = .ok (.ifCond .le 17, 3) := by decide +kernel
theorem d_Mo_told_35 : decode b_Mo_told 35 = .ok (.aload_n 0, 1) := by decide +kernel
theorem d_Mo_told_36 : decode b_Mo_told 36 = .ok (.getfield 38, 3) := by decide +kernel
theorem d_Mo_told_39 : decode b_Mo_told 39 = .ok (.iload 7, 2) := by decide +kernel
theorem d_Mo_told_41 : decode b_Mo_told 41 = .ok (.iaload, 1) := by decide +kernel
theorem d_Mo_told_42 : decode b_Mo_told 42 = .ok (.ifCond .ne 7, 3) := by decide +kernel
theorem d_Mo_told_45 : decode b_Mo_told 45 = .ok (.iconst 1, 1) := by decide +kernel
theorem d_Mo_told_46 : decode b_Mo_told 46 = .ok (.goto 4, 3) := by decide +kernel
theorem d_Mo_told_49 : decode b_Mo_told 49 = .ok (.iconst 0, 1) := by decide +kernel
theorem d_Mo_told_50 : decode b_Mo_told 50 = .ok (.istore 9, 2) := by decide +kernel
theorem d_Mo_told_52 : decode b_Mo_told 52 = .ok (.aload_n 0, 1) := by decide +kernel
theorem d_Mo_told_53 : decode b_Mo_told 53 = .ok (.getfield 38, 3) := by decide +kernel
theorem d_Mo_told_56 : decode b_Mo_told 56 = .ok (.iload 6, 2) := by decide +kernel
theorem d_Mo_told_58 : decode b_Mo_told 58 = .ok (.iaload, 1) := by decide +kernel
theorem d_Mo_told_59 : decode b_Mo_told 59 = .ok (.ifCond .ne 7, 3) := by decide +kernel
theorem d_Mo_told_62 : decode b_Mo_told 62 = .ok (.iconst 1, 1) := by decide +kernel
theorem d_Mo_told_63 : decode b_Mo_told 63 = .ok (.goto 4, 3) := by decide +kernel
theorem d_Mo_told_66 : decode b_Mo_told 66 = .ok (.iconst 0, 1) := by decide +kernel
theorem d_Mo_told_67 : decode b_Mo_told 67 = .ok (.istore 10, 2) := by decide +kernel
theorem d_Mo_told_69 : decode b_Mo_told 69 = .ok (.aload_n 0, 1) := by decide +kernel
theorem d_Mo_told_70 : decode b_Mo_told 70 = .ok (.getfield 32, 3) := by decide +kernel
theorem d_Mo_told_73 : decode b_Mo_told 73 = .ok (.iload 6, 2) := by decide +kernel
theorem d_Mo_told_75 : decode b_Mo_told 75 = .ok (.iaload, 1) := by decide +kernel
theorem d_Mo_told_76 : decode b_Mo_told 76 = .ok (.ifCond .le 47, 3) := by decide +kernel
theorem d_Mo_told_79 : decode b_Mo_told 79 = .ok (.aload_n 0, 1) := by decide +kernel
theorem d_Mo_told_80 : decode b_Mo_told 80 = .ok (.getfield 32, 3) := by decide +kernel
theorem d_Mo_told_83 : decode b_Mo_told 83 = .ok (.iload 6, 2) := by decide +kernel
theorem d_Mo_told_85 : decode b_Mo_told 85 = .ok (.iaload, 1) := by decide +kernel
theorem d_Mo_told_86 : decode b_Mo_told 86 = .ok (.iload 10, 2) := by decide +kernel
theorem d_Mo_told_88 : decode b_Mo_told 88 = .ok (.aload_n 0, 1) := by decide +kernel
theorem d_Mo_told_89 : decode b_Mo_told 89 = .ok (.getfield 32, 3) := by decide +kernel
theorem d_Mo_told_92 : decode b_Mo_told 92 = .ok (.iload 7, 2) := by decide +kernel
theorem d_Mo_told_94 : decode b_Mo_told 94 = .ok (.iaload, 1) := by decide +kernel
theorem d_Mo_told_95 : decode b_Mo_told 95 = .ok (.iload 9, 2) := by decide +kernel
theorem d_Mo_told_97 : decode b_Mo_told 97 = .ok (.invokestatic 157, 3) := by decide +kernel
theorem d_Mo_told_100 : decode b_Mo_told 100 = .ok (.ifCond .eq 23, 3) := by decide +kernel
theorem d_Mo_told_103 : decode b_Mo_told 103 = .ok (.aload_n 0, 1) := by decide +kernel
theorem d_Mo_told_104 : decode b_Mo_told 104 = .ok (.getfield 56, 3) := by decide +kernel
theorem d_Mo_told_107 : decode b_Mo_told 107 = .ok (.iload 6, 2) := by decide +kernel
theorem d_Mo_told_109 : decode b_Mo_told 109 = .ok (.aload_n 0, 1) := by decide +kernel
theorem d_Mo_told_110 : decode b_Mo_told 110 = .ok (.getfield 56, 3) := by decide +kernel
theorem d_Mo_told_113 : decode b_Mo_told 113 = .ok (.iload 6, 2) := by decide +kernel
theorem d_Mo_told_115 : decode b_Mo_told 115 = .ok (.iaload, 1) := by decide +kernel
theorem d_Mo_told_116 : decode b_Mo_told 116 = .ok (.iload 8, 2) := by decide +kernel
theorem d_Mo_told_118 : decode b_Mo_told 118 = .ok (.ior, 1) := by decide +kernel
theorem d_Mo_told_119 : decode b_Mo_told 119 = .ok (.iastore, 1) := by decide +kernel
theorem d_Mo_told_120 : decode b_Mo_told 120 = .ok (.goto 105, 3) := by decide +kernel
theorem d_Mo_told_123 : decode b_Mo_told 123 = .ok (.aload_n 0, 1) := by decide +kernel
theorem d_Mo_told_124 : decode b_Mo_told 124 = .ok (.getfield 32, 3) := by decide +kernel
theorem d_Mo_told_127 : decode b_Mo_told 127 = .ok (.iload 6, 2) := by decide +kernel
theorem d_Mo_told_129 : decode b_Mo_told 129 = .ok (.iaload, 1) := by decide +kernel
theorem d_Mo_told_130 : decode b_Mo_told 130 = .ok (.ifCond .le 49, 3) := by decide +kernel
theorem d_Mo_told_133 : decode b_Mo_told 133 = .ok (.aload_n 0, 1) := by decide +kernel
theorem d_Mo_told_134 : decode b_Mo_told 134 = .ok (.getfield 32, 3) := by decide +kernel
theorem d_Mo_told_137 : decode b_Mo_told 137 = .ok (.iload 6, 2) := by decide +kernel
theorem d_Mo_told_139 : decode b_Mo_told 139 = .ok (.iaload, 1) := by decide +kernel
theorem d_Mo_told_140 : decode b_Mo_told 140 = .ok (.aload_n 0, 1) := by decide +kernel
theorem d_Mo_told_141 : decode b_Mo_told 141 = .ok (.getfield 32, 3) := by decide +kernel
theorem d_Mo_told_144 : decode b_Mo_told 144 = .ok (.iload 7, 2) := by decide +kernel
theorem d_Mo_told_146 : decode b_Mo_told 146 = .ok (.iaload, 1) := by decide +kernel
theorem d_Mo_told_147 : decode b_Mo_told 147 = .ok (.if_icmp .ne 32, 3) := by decide +kernel
theorem d_Mo_told_150 : decode b_Mo_told 150 = .ok (.iload 10, 2) := by decide +kernel
theorem d_Mo_told_152 : decode b_Mo_told 152 = .ok (.iload 9, 2) := by decide +kernel
theorem d_Mo_told_154 : decode b_Mo_told 154 = .ok (.if_icmp .ne 25, 3) := by decide +kernel
theorem d_Mo_told_157 : decode b_Mo_told 157 = .ok (.aload_n 0, 1) := by decide +kernel
theorem d_Mo_told_158 : decode b_Mo_told 158 = .ok (.getfield 56, 3) := by decide +kernel
theorem d_Mo_told_161 : decode b_Mo_told 161 = .ok (.iload 6, 2) := by decide +kernel
theorem d_Mo_told_163 : decode b_Mo_told 163 = .ok (.aload_n 0, 1) := by decide +kernel
theorem d_Mo_told_164 : decode b_Mo_told 164 = .ok (.getfield 56, 3) := by decide +kernel
theorem d_Mo_told_167 : decode b_Mo_told 167 = .ok (.iload 6, 2) := by decide +kernel
theorem d_Mo_told_169 : decode b_Mo_told 169 = .ok (.iaload, 1) := by decide +kernel
theorem d_Mo_told_170 : decode b_Mo_told 170 = .ok (.iload 8, 2) := by decide +kernel
theorem d_Mo_told_172 : decode b_Mo_told 172 = .ok (.iconst (-1), 1) := by decide +kernel
theorem d_Mo_told_173 : decode b_Mo_told 173 = .ok (.ixor, 1) := by decide +kernel
theorem d_Mo_told_174 : decode b_Mo_told 174 = .ok (.iand, 1) := by decide +kernel
theorem d_Mo_told_175 : decode b_Mo_told 175 = .ok (.iastore, 1) := by decide +kernel
theorem d_Mo_told_176 : decode b_Mo_told 176 = .ok (.goto 49, 3) := by decide +kernel
theorem d_Mo_told_179 : decode b_Mo_told 179 = .ok (.aload_n 0, 1) := by decide +kernel
theorem d_Mo_told_180 : decode b_Mo_told 180 = .ok (.getfield 32, 3) := by decide +kernel
theorem d_Mo_told_183 : decode b_Mo_told 183 = .ok (.iload 7, 2) := by decide +kernel
theorem d_Mo_told_185 : decode b_Mo_told 185 = .ok (.iaload, 1) := by decide +kernel
theorem d_Mo_told_186 : decode b_Mo_told 186 = .ok (.ifCond .le 39, 3) := by decide +kernel
theorem d_Mo_told_189 : decode b_Mo_told 189 = .ok (.aload_n 0, 1) := by decide +kernel
theorem d_Mo_told_190 : decode b_Mo_told 190 = .ok (.getfield 56, 3) := by decide +kernel
theorem d_Mo_told_193 : decode b_Mo_told 193 = .ok (.iload 6, 2) := by decide +kernel
theorem d_Mo_told_195 : decode b_Mo_told 195 = .ok (.aload_n 0, 1) := by decide +kernel
theorem d_Mo_told_196 : decode b_Mo_told 196 = .ok (.getfield 56, 3) := by decide +kernel
theorem d_Mo_told_199 : decode b_Mo_told 199 = .ok (.iload 6, 2) := by decide +kernel
theorem d_Mo_told_201 : decode b_Mo_told 201 = .ok (.iaload, 1) := by decide +kernel
theorem d_Mo_told_202 : decode b_Mo_told 202 = .ok (.iload 8, 2) := by decide +kernel
theorem d_Mo_told_204 : decode b_Mo_told 204 = .ok (.iconst (-1), 1) := by decide +kernel
theorem d_Mo_told_205 : decode b_Mo_told 205 = .ok (.ixor, 1) := by decide +kernel
theorem d_Mo_told_206 : decode b_Mo_told 206 = .ok (.iand, 1) := by decide +kernel
theorem d_Mo_told_207 : decode b_Mo_told 207 = .ok (.iastore, 1) := by decide +kernel
theorem d_Mo_told_208 : decode b_Mo_told 208 = .ok (.aload_n 0, 1) := by decide +kernel
theorem d_Mo_told_209 : decode b_Mo_told 209 = .ok (.getfield 59, 3) := by decide +kernel
theorem d_Mo_told_212 : decode b_Mo_told 212 = .ok (.iload 6, 2) := by decide +kernel
theorem d_Mo_told_214 : decode b_Mo_told 214 = .ok (.aload_n 0, 1) := by decide +kernel
theorem d_Mo_told_215 : decode b_Mo_told 215 = .ok (.getfield 59, 3) := by decide +kernel
theorem d_Mo_told_218 : decode b_Mo_told 218 = .ok (.iload 6, 2) := by decide +kernel
theorem d_Mo_told_220 : decode b_Mo_told 220 = .ok (.iaload, 1) := by decide +kernel
theorem d_Mo_told_221 : decode b_Mo_told 221 = .ok (.iload 8, 2) := by decide +kernel
theorem d_Mo_told_223 : decode b_Mo_told 223 = .ok (.ior, 1) := by decide +kernel
theorem d_Mo_told_224 : decode b_Mo_told 224 = .ok (.iastore, 1) := by decide +kernel
theorem d_Mo_told_225 : decode b_Mo_told 225 = .ok (.return_, 1) := by decide +kernel
theorem d_Mo_summary_0 : decode b_Mo_summary 0 = .ok (.aload_n 0, 1) := by decide +kernel
theorem d_Mo_summary_1 : decode b_Mo_summary 1 = .ok (.iload_n 1, 1) := by decide +kernel
theorem d_Mo_summary_2 : decode b_Mo_summary 2 = .ok (.iload_n 2, 1) := by decide +kernel
theorem d_Mo_summary_3 : decode b_Mo_summary 3 = .ok (.iload_n 3, 1) := by decide +kernel
theorem d_Mo_summary_4 : decode b_Mo_summary 4 = .ok (.invokevirtual 167, 3) := by decide +kernel
theorem d_Mo_summary_7 : decode b_Mo_summary 7 = .ok (.istore 5, 2) := by decide +kernel
theorem d_Mo_summary_9 : decode b_Mo_summary 9 = .ok (.iload 5, 2) := by decide +kernel
theorem d_Mo_summary_11 : decode b_Mo_summary 11 = .ok (.ifCond .le 10, 3) := by decide +kernel
theorem d_Mo_summary_14 : decode b_Mo_summary 14 = .ok (.aload_n 0, 1) := by decide +kernel
theorem d_Mo_summary_15 : decode b_Mo_summary 15 = .ok (.iload 5, 2) := by decide +kernel
theorem d_Mo_summary_17 : decode b_Mo_summary 17 = .ok (.invokevirtual 102, 3) := by decide +kernel
theorem d_Mo_summary_20 : decode b_Mo_summary 20 = .ok (.ireturn, 1) := by decide +kernel
theorem d_Mo_summary_21 : decode b_Mo_summary 21 = .ok (.aload_n 0, 1) := by decide +kernel
theorem d_Mo_summary_22 : decode b_Mo_summary 22 = .ok (.iconst 0, 1) := by decide +kernel
theorem d_Mo_summary_23 : decode b_Mo_summary 23 = .ok (.putfield 71, 3) := by decide +kernel
theorem d_Mo_summary_26 : decode b_Mo_summary 26 = .ok (.iconst 0, 1) := by decide +kernel
theorem d_Mo_summary_27 : decode b_Mo_summary 27 = .ok (.istore 6, 2) := by decide +kernel
theorem d_Mo_summary_29 : decode b_Mo_summary 29 = .ok (.iconst 0, 1) := by decide +kernel
theorem d_Mo_summary_30 : decode b_Mo_summary 30 = .ok (.istore 7, 2) := by decide +kernel
theorem d_Mo_summary_32 : decode b_Mo_summary 32 = .ok (.iload 7, 2) := by decide +kernel
theorem d_Mo_summary_34 : decode b_Mo_summary 34 = .ok (.bipush 42, 2) := by decide +kernel
theorem d_Mo_summary_36 : decode b_Mo_summary 36 = .ok (.if_icmp .ge 34, 3) := by decide +kernel
theorem d_Mo_summary_39 : decode b_Mo_summary 39 = .ok (.iload 6, 2) := by decide +kernel
theorem d_Mo_summary_41 : decode b_Mo_summary 41 = .ok (.aload_n 0, 1) := by decide +kernel
theorem d_Mo_summary_42 : decode b_Mo_summary 42 = .ok (.getfield 32, 3) := by decide +kernel
theorem d_Mo_summary_45 : decode b_Mo_summary 45 = .ok (.iload_n 1, 1) := by decide +kernel
theorem d_Mo_summary_46 : decode b_Mo_summary 46 = .ok (.iload_n 3, 1) := by decide +kernel
theorem d_Mo_summary_47 : decode b_Mo_summary 47 = .ok (.iload 7, 2) := by decide +kernel
theorem d_Mo_summary_49 : decode b_Mo_summary 49 = .ok (.invokestatic 133, 3) := by decide +kernel
theorem d_Mo_summary_52 : decode b_Mo_summary 52 = .ok (.iaload, 1) := by decide +kernel
theorem d_Mo_summary_53 : decode b_Mo_summary 53 = .ok (.ifCond .le 7, 3) := by decide +kernel
theorem d_Mo_summary_56 : decode b_Mo_summary 56 = .ok (.iconst 1, 1) := by decide +kernel
theorem d_Mo_summary_57 : decode b_Mo_summary 57 = .ok (.goto 4, 3) := by decide +kernel
theorem d_Mo_summary_60 : decode b_Mo_summary 60 = .ok (.iconst 0, 1) := by decide +kernel
theorem d_Mo_summary_61 : decode b_Mo_summary 61 = .ok (.iadd, 1) := by decide +kernel
theorem d_Mo_summary_62 : decode b_Mo_summary 62 = .ok (.istore 6, 2) := by decide +kernel
theorem d_Mo_summary_64 : decode b_Mo_summary 64 = .ok (.iinc 7 1, 3) := by decide +kernel
theorem d_Mo_summary_67 : decode b_Mo_summary 67 = .ok (.goto (-35), 3) := by decide +kernel
theorem d_Mo_summary_70 : decode b_Mo_summary 70 = .ok (.iconst 0, 1) := by decide +kernel
theorem d_Mo_summary_71 : decode b_Mo_summary 71 = .ok (.istore 7, 2) := by decide +kernel
theorem d_Mo_summary_73 : decode b_Mo_summary 73 = .ok (.iload 7, 2) := by decide +kernel
theorem d_Mo_summary_75 : decode b_Mo_summary 75 = .ok (.bipush 6, 2) := by decide +kernel
theorem d_Mo_summary_77 : decode b_Mo_summary 77 = .ok (.if_icmp .ge 127, 3) := by decide +kernel
theorem d_Mo_summary_80 : decode b_Mo_summary 80 = .ok (.aload_n 0, 1) := by decide +kernel
theorem d_Mo_summary_81 : decode b_Mo_summary 81 = .ok (.iload 7, 2) := by decide +kernel
theorem d_Mo_summary_83 : decode b_Mo_summary 83 = .ok (.iload_n 1, 1) := by decide +kernel
theorem d_Mo_summary_84 : decode b_Mo_summary 84 = .ok (.iload_n 2, 1) := by decide +kernel
theorem d_Mo_summary_85 : decode b_Mo_summary 85 = .ok (.iload 4, 2) := by decide +kernel
theorem d_Mo_summary_87 : decode b_Mo_summary 87 = .ok (.invokevirtual 105, 3) := by decide +kernel
theorem d_Mo_summary_90 : decode b_Mo_summary 90 = .ok (.ifCond .eq 108, 3) := by decide +kernel
theorem d_Mo_summary_93 : decode b_Mo_summary 93 = .ok (.aload_n 0, 1) := by decide +kernel
theorem d_Mo_summary_94 : decode b_Mo_summary 94 = .ok (.iload 7, 2) := by decide +kernel
theorem d_Mo_summary_96 : decode b_Mo_summary 96 = .ok (.iload_n 2, 1) := by decide +kernel
theorem d_Mo_summary_97 : decode b_Mo_summary 97 = .ok (.iload_n 3, 1) := by decide +kernel
theorem d_Mo_summary_98 : decode b_Mo_summary 98 = .ok (.iload_n 1, 1) := by decide +kernel
theorem d_Mo_summary_99 : decode b_Mo_summary 99 = .ok (.invokevirtual 87, 3) := by decide +kernel
theorem d_Mo_summary_102 : decode b_Mo_summary 102 = .ok (.ifCond .eq 96, 3) := by decide +kernel
theorem d_Mo_summary_105 : decode b_Mo_summary 105 = .ok (.iconst 0, 1) := by decide +kernel
theorem d_Mo_summary_106 : decode b_Mo_summary 106 = .ok (.istore 8, 2) := by decide +kernel
theorem d_Mo_summary_108 : decode b_Mo_summary 108 = .ok (.iload 8, 2) := by decide +kernel
theorem d_Mo_summary_110 : decode b_Mo_summary 110 = .ok (.bipush 42, 2) := by decide +kernel
theorem d_Mo_summary_112 : decode b_Mo_summary 112 = .ok (.if_icmp .ge 86, 3) := by decide +kernel
theorem d_Mo_summary_115 : decode b_Mo_summary 115 = .ok (.iload 7, 2) := by decide +kernel
theorem d_Mo_summary_117 : decode b_Mo_summary 117 = .ok (.iload_n 3, 1) := by decide +kernel
theorem d_Mo_summary_118 : decode b_Mo_summary 118 = .ok (.iload 8, 2) := by decide +kernel
theorem d_Mo_summary_120 : decode b_Mo_summary 120 = .ok (.invokestatic 133, 3) := by decide +kernel
theorem d_Mo_summary_123 : decode b_Mo_summary 123 = .ok (.istore 9, 2) := by decide +kernel
theorem d_Mo_summary_125 : decode b_Mo_summary 125 = .ok (.aload_n 0, 1) := by decide +kernel
theorem d_Mo_summary_126 : decode b_Mo_summary 126 = .ok (.getfield 32, 3) := by decide +kernel
theorem d_Mo_summary_129 : decode b_Mo_summary 129 = .ok (.iload_n 1, 1) := by decide +kernel
theorem d_Mo_summary_130 : decode b_Mo_summary 130 = .ok (.iload_n 3, 1) := by decide +kernel
theorem d_Mo_summary_131 : decode b_Mo_summary 131 = .ok (.iload 8, 2) := by decide +kernel
theorem d_Mo_summary_133 : decode b_Mo_summary 133 = .ok (.invokestatic 133, 3) := by decide +kernel
theorem d_Mo_summary_136 : decode b_Mo_summary 136 = .ok (.iaload, 1) := by decide +kernel
theorem d_Mo_summary_137 : decode b_Mo_summary 137 = .ok (.ifCond .le 17, 3) := by decide +kernel
theorem d_Mo_summary_140 : decode b_Mo_summary 140 = .ok (.aload_n 0, 1) := by decide +kernel
theorem d_Mo_summary_141 : decode b_Mo_summary 141 = .ok (.iload 7, 2) := by decide +kernel
theorem d_Mo_summary_143 : decode b_Mo_summary 143 = .ok (.iload_n 1, 1) := by decide +kernel
theorem d_Mo_summary_144 : decode b_Mo_summary 144 = .ok (.iload_n 2, 1) := by decide +kernel
theorem d_Mo_summary_145 : decode b_Mo_summary 145 = .ok (.iload_n 3, 1) := by decide +kernel
theorem d_Mo_summary_146 : decode b_Mo_summary 146 = .ok (.iload 8, 2) := by decide +kernel
theorem d_Mo_summary_148 : decode b_Mo_summary 148 = .ok (.invokevirtual 174, 3) := by decide +kernel
theorem d_Mo_summary_151 : decode b_Mo_summary 151 = .ok (.goto 41, 3) := by decide +kernel
theorem d_Mo_summary_154 : decode b_Mo_summary 154 = .ok (.aload_n 0, 1) := by decide +kernel
theorem d_Mo_summary_155 : decode b_Mo_summary 155 = .ok (.getfield 32, 3) := by decide +kernel
theorem d_Mo_summary_158 : decode b_Mo_summary 158 = .ok (.iload 9, 2) := by decide +kernel
theorem d_Mo_summary_160 : decode b_Mo_summary 160 = .ok (.iaload, 1) := by decide +kernel
theorem d_Mo_summary_161 : decode b_Mo_summary 161 = .ok (.ifCond .le 31, 3) := by decide +kernel
theorem d_Mo_summary_164 : decode b_Mo_summary 164 = .ok (.aload_n 0, 1) := by decide +kernel
theorem d_Mo_summary_165 : decode b_Mo_summary 165 = .ok (.getfield 38, 3) := by decide +kernel
theorem d_Mo_summary_168 : decode b_Mo_summary 168 = .ok (.iload 9, 2) := by decide +kernel
theorem d_Mo_summary_170 : decode b_Mo_summary 170 = .ok (.iaload, 1) := by decide +kernel
theorem d_Mo_summary_171 : decode b_Mo_summary 171 = .ok (.ifCond .le 21, 3) := by decide +kernel
theorem d_Mo_summary_174 : decode b_Mo_summary 174 = .ok (.aload_n 0, 1) := by decide +kernel
theorem d_Mo_summary_175 : decode b_Mo_summary 175 = .ok (.getfield 56, 3) := by decide +kernel
theorem d_Mo_summary_178 : decode b_Mo_summary 178 = .ok (.iload 9, 2) := by decide +kernel
theorem d_Mo_summary_180 : decode b_Mo_summary 180 = .ok (.aload_n 0, 1) := by decide +kernel
theorem d_Mo_summary_181 : decode b_Mo_summary 181 = .ok (.getfield 56, 3) := by decide +kernel
theorem d_Mo_summary_184 : decode b_Mo_summary 184 = .ok (.iload 9, 2) := by decide +kernel
theorem d_Mo_summary_186 : decode b_Mo_summary 186 = .ok (.iaload, 1) := by decide +kernel
theorem d_Mo_summary_187 : decode b_Mo_summary 187 = .ok (.iconst 1, 1) := by decide +kernel
theorem d_Mo_summary_188 : decode b_Mo_summary 188 = .ok (.iload_n 2, 1) := by decide +kernel
theorem d_Mo_summary_189 : decode b_Mo_summary 189 = .ok (.ishl, 1) := by decide +kernel
theorem d_Mo_summary_190 : decode b_Mo_summary 190 = .ok (.ior, 1) := by decide +kernel
theorem d_Mo_summary_191 : decode b_Mo_summary 191 = .ok (.iastore, 1) := by decide +kernel
theorem d_Mo_summary_192 : decode b_Mo_summary 192 = .ok (.iinc 8 1, 3) := by decide +kernel
theorem d_Mo_summary_195 : decode b_Mo_summary 195 = .ok (.goto (-87), 3) := by decide +kernel
theorem d_Mo_summary_198 : decode b_Mo_summary 198 = .ok (.iinc 7 1, 3) := by decide +kernel
theorem d_Mo_summary_201 : decode b_Mo_summary 201 = .ok (.goto (-128), 3) := by decide +kernel
theorem d_Mo_summary_204 : decode b_Mo_summary 204 = .ok (.iload 6, 2) := by decide +kernel
theorem d_Mo_summary_206 : decode b_Mo_summary 206 = .ok (.ireturn, 1) := by decide +kernel
theorem d_Mo_request_0 : decode b_Mo_request 0 = .ok (.aload_n 0, 1) := by decide +kernel
theorem d_Mo_request_1 : decode b_Mo_request 1 = .ok (.iload_n 1, 1) := by decide +kernel
theorem d_Mo_request_2 : decode b_Mo_request 2 = .ok (.iload_n 2, 1) := by decide +kernel
theorem d_Mo_request_3 : decode b_Mo_request 3 = .ok (.iload_n 3, 1) := by decide +kernel
theorem d_Mo_request_4 : decode b_Mo_request 4 = .ok (.invokevirtual 167, 3) := by decide +kernel
theorem d_Mo_request_7 : decode b_Mo_request 7 = .ok (.istore 5, 2) := by decide +kernel
theorem d_Mo_request_9 : decode b_Mo_request 9 = .ok (.iload 5, 2) := by decide +kernel
theorem d_Mo_request_11 : decode b_Mo_request 11 = .ok (.ifCond .le 10, 3) := by decide +kernel
theorem d_Mo_request_14 : decode b_Mo_request 14 = .ok (.aload_n 0, 1) := by decide +kernel
theorem d_Mo_request_15 : decode b_Mo_request 15 = .ok (.iload 5, 2) := by decide +kernel
theorem d_Mo_request_17 : decode b_Mo_request 17 = .ok (.invokevirtual 102, 3) := by decide +kernel
theorem d_Mo_request_20 : decode b_Mo_request 20 = .ok (.ireturn, 1) := by decide +kernel
theorem d_Mo_request_21 : decode b_Mo_request 21 = .ok (.aload_n 0, 1) := by decide +kernel
theorem d_Mo_request_22 : decode b_Mo_request 22 = .ok (.iconst 0, 1) := by decide +kernel
theorem d_Mo_request_23 : decode b_Mo_request 23 = .ok (.putfield 71, 3) := by decide +kernel
theorem d_Mo_request_26 : decode b_Mo_request 26 = .ok (.iconst 0, 1) := by decide +kernel
theorem d_Mo_request_27 : decode b_Mo_request 27 = .ok (.istore 6, 2) := by decide +kernel
theorem d_Mo_request_29 : decode b_Mo_request 29 = .ok (.iconst 0, 1) := by decide +kernel
theorem d_Mo_request_30 : decode b_Mo_request 30 = .ok (.istore 7, 2) := by decide +kernel
theorem d_Mo_request_32 : decode b_Mo_request 32 = .ok (.iload 7, 2) := by decide +kernel
theorem d_Mo_request_34 : decode b_Mo_request 34 = .ok (.bipush 42, 2) := by decide +kernel
theorem d_Mo_request_36 : decode b_Mo_request 36 = .ok (.if_icmp .ge 108, 3) := by decide +kernel
theorem d_Mo_request_39 : decode b_Mo_request 39 = .ok (.iload_n 1, 1) := by decide +kernel
theorem d_Mo_request_40 : decode b_Mo_request 40 = .ok (.iload_n 3, 1) := by decide +kernel
theorem d_Mo_request_41 : decode b_Mo_request 41 = .ok (.iload 7, 2) := by decide +kernel
theorem d_Mo_request_43 : decode b_Mo_request 43 = .ok (.invokestatic 133, 3) := by decide +kernel
theorem d_Mo_request_46 : decode b_Mo_request 46 = .ok (.istore 8, 2) := by decide +kernel
theorem d_Mo_request_48 : decode b_Mo_request 48 = .ok (.aload_n 0, 1) := by decide +kernel
theorem d_Mo_request_49 : decode b_Mo_request 49 = .ok (.getfield 59, 3) := by decide +kernel
theorem d_Mo_request_52 : decode b_Mo_request 52 = .ok (.iload 8, 2) := by decide +kernel
theorem d_Mo_request_54 : decode b_Mo_request 54 = .ok (.iaload, 1) := by decide +kernel
theorem d_Mo_request_55 : decode b_Mo_request 55 = .ok (.iload_n 2, 1) := by decide +kernel
theorem d_Mo_request_56 : decode b_Mo_request 56 = .ok (.ishr, 1) := by decide +kernel
theorem d_Mo_request_57 : decode b_Mo_request 57 = .ok (.iconst 1, 1) := by decide +kernel
theorem d_Mo_request_58 : decode b_Mo_request 58 = .ok (.iand, 1) := by decide +kernel
theorem d_Mo_request_59 : decode b_Mo_request 59 = .ok (.iconst 1, 1) := by decide +kernel
theorem d_Mo_request_60 : decode b_Mo_request 60 = .ok (.if_icmp .ne 78, 3) := by decide +kernel
theorem d_Mo_request_63 : decode b_Mo_request 63 = .ok (.iinc 6 1, 3) := by decide +kernel
theorem d_Mo_request_66 : decode b_Mo_request 66 = .ok (.aload_n 0, 1) := by decide +kernel
theorem d_Mo_request_67 : decode b_Mo_request 67 = .ok (.getfield 59, 3) := by decide +kernel
theorem d_Mo_request_70 : decode b_Mo_request 70 = .ok (.iload 8, 2) := by decide +kernel
theorem d_Mo_request_72 : decode b_Mo_request 72 = .ok (.aload_n 0, 1) := by decide +kernel
theorem d_Mo_request_73 : decode b_Mo_request 73 = .ok (.getfield 59, 3) := by decide +kernel
theorem d_Mo_request_76 : decode b_Mo_request 76 = .ok (.iload 8, 2) := by decide +kernel
theorem d_Mo_request_78 : decode b_Mo_request 78 = .ok (.iaload, 1) := by decide +kernel
theorem d_Mo_request_79 : decode b_Mo_request 79 = .ok (.iconst 1, 1) := by decide +kernel
theorem d_Mo_request_80 : decode b_Mo_request 80 = .ok (.iload_n 2, 1) := by decide +kernel
theorem d_Mo_request_81 : decode b_Mo_request 81 = .ok (.ishl, 1) := by decide +kernel
theorem d_Mo_request_82 : decode b_Mo_request 82 = .ok (.iconst (-1), 1) := by decide +kernel
theorem d_Mo_request_83 : decode b_Mo_request 83 = .ok (.ixor, 1) := by decide +kernel
theorem d_Mo_request_84 : decode b_Mo_request 84 = .ok (.iand, 1) := by decide +kernel
theorem d_Mo_request_85 : decode b_Mo_request 85 = .ok (.iastore, 1) := by decide +kernel
theorem d_Mo_request_86 : decode b_Mo_request 86 = .ok (.iconst 0, 1) := by decide +kernel
theorem d_Mo_request_87 : decode b_Mo_request 87 = .ok (.istore 9, 2) := by decide +kernel
theorem d_Mo_request_89 : decode b_Mo_request 89 = .ok (.iload 9, 2) := by decide +kernel
theorem d_Mo_request_91 : decode b_Mo_request 91 = .ok (.bipush 6, 2) := by decide +kernel
theorem d_Mo_request_93 : decode b_Mo_request 93 = .ok (.if_icmp .ge 45, 3) := by decide +kernel
theorem d_Mo_request_96 : decode b_Mo_request 96 = .ok (.aload_n 0, 1) := by decide +kernel
theorem d_Mo_request_97 : decode b_Mo_request 97 = .ok (.iload 9, 2) := by decide +kernel
theorem d_Mo_request_99 : decode b_Mo_request 99 = .ok (.iload_n 1, 1) := by decide +kernel
theorem d_Mo_request_100 : decode b_Mo_request 100 = .ok (.iload_n 2, 1) := by decide +kernel
theorem d_Mo_request_101 : decode b_Mo_request 101 = .ok (.iload 4, 2) := by decide +kernel
theorem d_Mo_request_103 : decode b_Mo_request 103 = .ok (.invokevirtual 105, 3) := by decide +kernel
theorem d_Mo_request_106 : decode b_Mo_request 106 = .ok (.ifCond .eq 26, 3) := by decide +kernel
theorem d_Mo_request_109 : decode b_Mo_request 109 = .ok (.aload_n 0, 1) := by decide +kernel
theorem d_Mo_request_110 : decode b_Mo_request 110 = .ok (.iload 9, 2) := by decide +kernel
theorem d_Mo_request_112 : decode b_Mo_request 112 = .ok (.iload_n 2, 1) := by decide +kernel
theorem d_Mo_request_113 : decode b_Mo_request 113 = .ok (.iload_n 3, 1) := by decide +kernel
theorem d_Mo_request_114 : decode b_Mo_request 114 = .ok (.iload_n 1, 1) := by decide +kernel
theorem d_Mo_request_115 : decode b_Mo_request 115 = .ok (.invokevirtual 87, 3) := by decide +kernel
theorem d_Mo_request_118 : decode b_Mo_request 118 = .ok (.ifCond .eq 14, 3) := by decide +kernel
theorem d_Mo_request_121 : decode b_Mo_request 121 = .ok (.aload_n 0, 1) := by decide +kernel
theorem d_Mo_request_122 : decode b_Mo_request 122 = .ok (.iload 9, 2) := by decide +kernel
theorem d_Mo_request_124 : decode b_Mo_request 124 = .ok (.iload_n 1, 1) := by decide +kernel
theorem d_Mo_request_125 : decode b_Mo_request 125 = .ok (.iload_n 2, 1) := by decide +kernel
theorem d_Mo_request_126 : decode b_Mo_request 126 = .ok (.iload_n 3, 1) := by decide +kernel
theorem d_Mo_request_127 : decode b_Mo_request 127 = .ok (.iload 7, 2) := by decide +kernel
theorem d_Mo_request_129 : decode b_Mo_request 129 = .ok (.invokevirtual 174, 3) := by decide +kernel
theorem d_Mo_request_132 : decode b_Mo_request 132 = .ok (.iinc 9 1, 3) := by decide +kernel
theorem d_Mo_request_135 : decode b_Mo_request 135 = .ok (.goto (-46), 3) := by decide +kernel
theorem d_Mo_request_138 : decode b_Mo_request 138 = .ok (.iinc 7 1, 3) := by decide +kernel
theorem d_Mo_request_141 : decode b_Mo_request 141 = .ok (.goto (-109), 3) := by decide +kernel
theorem d_Mo_request_144 : decode b_Mo_request 144 = .ok (.iload 6, 2) := by decide +kernel
theorem d_Mo_request_146 : decode b_Mo_request 146 = .ok (.ireturn, 1) := by decide +kernel
theorem d_Mo_tick_0 : decode b_Mo_tick 0 = .ok (.aload_n 0, 1) := by decide +kernel
theorem d_Mo_tick_1 : decode b_Mo_tick 1 = .ok (.iconst 0, 1) := by decide +kernel
theorem d_Mo_tick_2 : decode b_Mo_tick 2 = .ok (.putfield 71, 3) := by decide +kernel
theorem d_Mo_tick_5 : decode b_Mo_tick 5 = .ok (.iconst 0, 1) := by decide +kernel
theorem d_Mo_tick_6 : decode b_Mo_tick 6 = .ok (.istore_n 1, 1) := by decide +kernel
theorem d_Mo_tick_7 : decode b_Mo_tick 7 = .ok (.iload_n 1, 1) := by decide +kernel
theorem d_Mo_tick_8 : decode b_Mo_tick 8 = .ok (.sipush 432, 3) := by decide +kernel
theorem d_Mo_tick_11 : decode b_Mo_tick 11 = .ok (.if_icmp .ge 36, 3) := by decide +kernel
theorem d_Mo_tick_14 : decode b_Mo_tick 14 = .ok (.aload_n 0, 1) := by decide +kernel
theorem d_Mo_tick_15 : decode b_Mo_tick 15 = .ok (.getfield 26, 3) := by decide +kernel
theorem d_Mo_tick_18 : decode b_Mo_tick 18 = .ok (.iload_n 1, 1) := by decide +kernel
theorem d_Mo_tick_19 : decode b_Mo_tick 19 = .ok (.aload_n 0, 1) := by decide +kernel
theorem d_Mo_tick_20 : decode b_Mo_tick 20 = .ok (.getfield 26, 3) := by decide +kernel
theorem d_Mo_tick_23 : decode b_Mo_tick 23 = .ok (.iload_n 1, 1) := by decide +kernel
theorem d_Mo_tick_24 : decode b_Mo_tick 24 = .ok (.iaload, 1) := by decide +kernel
theorem d_Mo_tick_25 : decode b_Mo_tick 25 = .ok (.ifCond .le 14, 3) := by decide +kernel
theorem d_Mo_tick_28 : decode b_Mo_tick 28 = .ok (.aload_n 0, 1) := by decide +kernel
theorem d_Mo_tick_29 : decode b_Mo_tick 29 = .ok (.getfield 26, 3) := by decide +kernel
theorem d_Mo_tick_32 : decode b_Mo_tick 32 = .ok (.iload_n 1, 1) := by decide +kernel
theorem d_Mo_tick_33 : decode b_Mo_tick 33 = .ok (.iaload, 1) := by decide +kernel
theorem d_Mo_tick_34 : decode b_Mo_tick 34 = .ok (.iconst 1, 1) := by decide +kernel
theorem d_Mo_tick_35 : decode b_Mo_tick 35 = .ok (.isub, 1) := by decide +kernel
theorem d_Mo_tick_36 : decode b_Mo_tick 36 = .ok (.goto 4, 3) := by decide +kernel
theorem d_Mo_tick_39 : decode b_Mo_tick 39 = .ok (.iconst 0, 1) := by decide +kernel
theorem d_Mo_tick_40 : decode b_Mo_tick 40 = .ok (.iastore, 1) := by decide +kernel
theorem d_Mo_tick_41 : decode b_Mo_tick 41 = .ok (.iinc 1 1, 3) := by decide +kernel
theorem d_Mo_tick_44 : decode b_Mo_tick 44 = .ok (.goto (-37), 3) := by decide +kernel
theorem d_Mo_tick_47 : decode b_Mo_tick 47 = .ok (.iconst 0, 1) := by decide +kernel
theorem d_Mo_tick_48 : decode b_Mo_tick 48 = .ok (.istore_n 1, 1) := by decide +kernel
theorem d_Mo_tick_49 : decode b_Mo_tick 49 = .ok (.iload_n 1, 1) := by decide +kernel
theorem d_Mo_tick_50 : decode b_Mo_tick 50 = .ok (.sipush 504, 3) := by decide +kernel
theorem d_Mo_tick_53 : decode b_Mo_tick 53 = .ok (.if_icmp .ge 108, 3) := by decide +kernel
theorem d_Mo_tick_56 : decode b_Mo_tick 56 = .ok (.aload_n 0, 1) := by decide +kernel
theorem d_Mo_tick_57 : decode b_Mo_tick 57 = .ok (.getfield 32, 3) := by decide +kernel
theorem d_Mo_tick_60 : decode b_Mo_tick 60 = .ok (.iload_n 1, 1) := by decide +kernel
theorem d_Mo_tick_61 : decode b_Mo_tick 61 = .ok (.iaload, 1) := by decide +kernel
theorem d_Mo_tick_62 : decode b_Mo_tick 62 = .ok (.ifCond .le 43, 3) := by decide +kernel
theorem d_Mo_tick_65 : decode b_Mo_tick 65 = .ok (.aload_n 0, 1) := by decide +kernel
theorem d_Mo_tick_66 : decode b_Mo_tick 66 = .ok (.getfield 38, 3) := by decide +kernel
theorem d_Mo_tick_69 : decode b_Mo_tick 69 = .ok (.iload_n 1, 1) := by decide +kernel
theorem d_Mo_tick_70 : decode b_Mo_tick 70 = .ok (.iaload, 1) := by decide +kernel
theorem d_Mo_tick_71 : decode b_Mo_tick 71 = .ok (.ifCond .le 34, 3) := by decide +kernel
theorem d_Mo_tick_74 : decode b_Mo_tick 74 = .ok (.aload_n 0, 1) := by decide +kernel
theorem d_Mo_tick_75 : decode b_Mo_tick 75 = .ok (.getfield 38, 3) := by decide +kernel
theorem d_Mo_tick_78 : decode b_Mo_tick 78 = .ok (.iload_n 1, 1) := by decide +kernel
theorem d_Mo_tick_79 : decode b_Mo_tick 79 = .ok (.dup2, 1) := by decide +kernel
theorem d_Mo_tick_80 : decode b_Mo_tick 80 = .ok (.iaload, 1) := by decide +kernel
theorem d_Mo_tick_81 : decode b_Mo_tick 81 = .ok (.iconst 1, 1) := by decide +kernel
theorem d_Mo_tick_82 : decode b_Mo_tick 82 = .ok (.isub, 1) := by decide +kernel
theorem d_Mo_tick_83 : decode b_Mo_tick 83 = .ok (.iastore, 1) := by decide +kernel
theorem d_Mo_tick_84 : decode b_Mo_tick 84 = .ok (.aload_n 0, 1) := by decide +kernel
theorem d_Mo_tick_85 : decode b_Mo_tick 85 = .ok (.getfield 38, 3) := by decide +kernel
theorem d_Mo_tick_88 : decode b_Mo_tick 88 = .ok (.iload_n 1, 1) := by decide +kernel
theorem d_Mo_tick_89 : decode b_Mo_tick 89 = .ok (.iaload, 1) := by decide +kernel
theorem d_Mo_tick_90 : decode b_Mo_tick 90 = .ok (.ifCond .ne 65, 3) := by decide +kernel
theorem d_Mo_tick_93 : decode b_Mo_tick 93 = .ok (.aload_n 0, 1) := by decide +kernel
theorem d_Mo_tick_94 : decode b_Mo_tick 94 = .ok (.iload_n 1, 1) := by decide +kernel
theorem d_Mo_tick_95 : decode b_Mo_tick 95 = .ok (.bipush 84, 2) := by decide +kernel
theorem d_Mo_tick_97 : decode b_Mo_tick 97 = .ok (.idiv, 1) := by decide +kernel
theorem d_Mo_tick_98 : decode b_Mo_tick 98 = .ok (.iload_n 1, 1) := by decide +kernel
theorem d_Mo_tick_99 : decode b_Mo_tick 99 = .ok (.invokevirtual 151, 3) := by decide +kernel
theorem d_Mo_tick_102 : decode b_Mo_tick 102 = .ok (.goto 53, 3) := by decide +kernel
theorem d_Mo_tick_105 : decode b_Mo_tick 105 = .ok (.aload_n 0, 1) := by decide +kernel
theorem d_Mo_tick_106 : decode b_Mo_tick 106 = .ok (.getfield 32, 3) := by decide +kernel
theorem d_Mo_tick_109 : decode b_Mo_tick 109 = .ok (.iload_n 1, 1) := by decide +kernel
theorem d_Mo_tick_110 : decode b_Mo_tick 110 = .ok (.iaload, 1) := by decide +kernel
theorem d_Mo_tick_111 : decode b_Mo_tick 111 = .ok (.ifCond .le 44, 3) := by decide +kernel
theorem d_Mo_tick_114 : decode b_Mo_tick 114 = .ok (.aload_n 0, 1) := by decide +kernel
theorem d_Mo_tick_115 : decode b_Mo_tick 115 = .ok (.getfield 41, 3) := by decide +kernel
theorem d_Mo_tick_118 : decode b_Mo_tick 118 = .ok (.iload_n 1, 1) := by decide +kernel
theorem d_Mo_tick_119 : decode b_Mo_tick 119 = .ok (.dup2, 1) := by decide +kernel
theorem d_Mo_tick_120 : decode b_Mo_tick 120 = .ok (.iaload, 1) := by decide +kernel
theorem d_Mo_tick_121 : decode b_Mo_tick 121 = .ok (.iconst 1, 1) := by decide +kernel
theorem d_Mo_tick_122 : decode b_Mo_tick 122 = .ok (.iadd, 1) := by decide +kernel
theorem d_Mo_tick_123 : decode b_Mo_tick 123 = .ok (.iastore, 1) := by decide +kernel
theorem d_Mo_tick_124 : decode b_Mo_tick 124 = .ok (.aload_n 0, 1) := by decide +kernel
theorem d_Mo_tick_125 : decode b_Mo_tick 125 = .ok (.getfield 41, 3) := by decide +kernel
theorem d_Mo_tick_128 : decode b_Mo_tick 128 = .ok (.iload_n 1, 1) := by decide +kernel
theorem d_Mo_tick_129 : decode b_Mo_tick 129 = .ok (.iaload, 1) := by decide +kernel
theorem d_Mo_tick_130 : decode b_Mo_tick 130 = .ok (.iconst 3, 1) := by decide +kernel
theorem d_Mo_tick_131 : decode b_Mo_tick 131 = .ok (.if_icmp .ne 24, 3) := by decide +kernel
theorem d_Mo_tick_134 : decode b_Mo_tick 134 = .ok (.aload_n 0, 1) := by decide +kernel
theorem d_Mo_tick_135 : decode b_Mo_tick 135 = .ok (.getfield 32, 3) := by decide +kernel
theorem d_Mo_tick_138 : decode b_Mo_tick 138 = .ok (.iload_n 1, 1) := by decide +kernel
theorem d_Mo_tick_139 : decode b_Mo_tick 139 = .ok (.iconst 0, 1) := by decide +kernel
theorem d_Mo_tick_140 : decode b_Mo_tick 140 = .ok (.iastore, 1) := by decide +kernel
theorem d_Mo_tick_141 : decode b_Mo_tick 141 = .ok (.aload_n 0, 1) := by decide +kernel
theorem d_Mo_tick_142 : decode b_Mo_tick 142 = .ok (.getfield 56, 3) := by decide +kernel
theorem d_Mo_tick_145 : decode b_Mo_tick 145 = .ok (.iload_n 1, 1) := by decide +kernel
theorem d_Mo_tick_146 : decode b_Mo_tick 146 = .ok (.iconst 0, 1) := by decide +kernel
theorem d_Mo_tick_147 : decode b_Mo_tick 147 = .ok (.iastore, 1) := by decide +kernel
theorem d_Mo_tick_148 : decode b_Mo_tick 148 = .ok (.aload_n 0, 1) := by decide +kernel
theorem d_Mo_tick_149 : decode b_Mo_tick 149 = .ok (.getfield 59, 3) := by decide +kernel
theorem d_Mo_tick_152 : decode b_Mo_tick 152 = .ok (.iload_n 1, 1) := by decide +kernel
theorem d_Mo_tick_153 : decode b_Mo_tick 153 = .ok (.iconst 0, 1) := by decide +kernel
theorem d_Mo_tick_154 : decode b_Mo_tick 154 = .ok (.iastore, 1) := by decide +kernel
theorem d_Mo_tick_155 : decode b_Mo_tick 155 = .ok (.iinc 1 1, 3) := by decide +kernel
theorem d_Mo_tick_158 : decode b_Mo_tick 158 = .ok (.goto (-109), 3) := by decide +kernel
theorem d_Mo_tick_161 : decode b_Mo_tick 161 = .ok (.return_, 1) := by decide +kernel
theorem d_Mo_place_0 : decode b_Mo_place 0 = .ok (.aload_n 0, 1) := by decide +kernel
theorem d_Mo_place_1 : decode b_Mo_place 1 = .ok (.iconst 0, 1) := by decide +kernel
theorem d_Mo_place_2 : decode b_Mo_place 2 = .ok (.putfield 71, 3) := by decide +kernel
theorem d_Mo_place_5 : decode b_Mo_place 5 = .ok (.iload_n 1, 1) := by decide +kernel
theorem d_Mo_place_6 : decode b_Mo_place 6 = .ok (.invokestatic 91, 3) := by decide +kernel
theorem d_Mo_place_9 : decode b_Mo_place 9 = .ok (.ifCond .eq 31, 3) := by decide +kernel
theorem d_Mo_place_12 : decode b_Mo_place 12 = .ok (.iload_n 2, 1) := by decide +kernel
theorem d_Mo_place_13 : decode b_Mo_place 13 = .ok (.ifCond .lt 27, 3) := by decide +kernel
theorem d_Mo_place_16 : decode b_Mo_place 16 = .ok (.iload_n 2, 1) := by decide +kernel
theorem d_Mo_place_17 : decode b_Mo_place 17 = .ok (.iconst 2, 1) := by decide +kernel
theorem d_Mo_place_18 : decode b_Mo_place 18 = .ok (.if_icmp .gt 22, 3) := by decide +kernel
theorem d_Mo_place_21 : decode b_Mo_place 21 = .ok (.iload_n 3, 1) := by decide +kernel
theorem d_Mo_place_22 : decode b_Mo_place 22 = .ok (.iconst 1, 1) := by decide +kernel
theorem d_Mo_place_23 : decode b_Mo_place 23 = .ok (.if_icmp .lt 17, 3) := by decide +kernel
theorem d_Mo_place_26 : decode b_Mo_place 26 = .ok (.iload_n 3, 1) := by decide +kernel
theorem d_Mo_place_27 : decode b_Mo_place 27 = .ok (.iconst 3, 1) := by decide +kernel
theorem d_Mo_place_28 : decode b_Mo_place 28 = .ok (.if_icmp .gt 12, 3) := by decide +kernel
theorem d_Mo_place_31 : decode b_Mo_place 31 = .ok (.aload_n 0, 1) := by decide +kernel
theorem d_Mo_place_32 : decode b_Mo_place 32 = .ok (.getfield 16, 3) := by decide +kernel
theorem d_Mo_place_35 : decode b_Mo_place 35 = .ok (.iload_n 1, 1) := by decide +kernel
theorem d_Mo_place_36 : decode b_Mo_place 36 = .ok (.baload, 1) := by decide +kernel
theorem d_Mo_place_37 : decode b_Mo_place 37 = .ok (.ifCond .eq 5, 3) := by decide +kernel
theorem d_Mo_place_40 : decode b_Mo_place 40 = .ok (.iconst 0, 1) := by decide +kernel
theorem d_Mo_place_41 : decode b_Mo_place 41 = .ok (.ireturn, 1) := by decide +kernel
theorem d_Mo_place_42 : decode b_Mo_place 42 = .ok (.aload_n 0, 1) := by decide +kernel
theorem d_Mo_place_43 : decode b_Mo_place 43 = .ok (.getfield 7, 3) := by decide +kernel
theorem d_Mo_place_46 : decode b_Mo_place 46 = .ok (.iload_n 1, 1) := by decide +kernel
theorem d_Mo_place_47 : decode b_Mo_place 47 = .ok (.iload_n 2, 1) := by decide +kernel
theorem d_Mo_place_48 : decode b_Mo_place 48 = .ok (.iastore, 1) := by decide +kernel
theorem d_Mo_place_49 : decode b_Mo_place 49 = .ok (.aload_n 0, 1) := by decide +kernel
theorem d_Mo_place_50 : decode b_Mo_place 50 = .ok (.getfield 13, 3) := by decide +kernel
theorem d_Mo_place_53 : decode b_Mo_place 53 = .ok (.iload_n 1, 1) := by decide +kernel
theorem d_Mo_place_54 : decode b_Mo_place 54 = .ok (.iload_n 3, 1) := by decide +kernel
theorem d_Mo_place_55 : decode b_Mo_place 55 = .ok (.iastore, 1) := by decide +kernel
theorem d_Mo_place_56 : decode b_Mo_place 56 = .ok (.iconst 1, 1) := by decide +kernel
theorem d_Mo_place_57 : decode b_Mo_place 57 = .ok (.ireturn, 1) := by decide +kernel
theorem d_Mo_attach_0 : decode b_Mo_attach 0 = .ok (.aload_n 0, 1) := by decide +kernel
theorem d_Mo_attach_1 : decode b_Mo_attach 1 = .ok (.iconst 0, 1) := by decide +kernel
theorem d_Mo_attach_2 : decode b_Mo_attach 2 = .ok (.putfield 71, 3) := by decide +kernel
theorem d_Mo_attach_5 : decode b_Mo_attach 5 = .ok (.iload_n 1, 1) := by decide +kernel
theorem d_Mo_attach_6 : decode b_Mo_attach 6 = .ok (.invokestatic 91, 3) := by decide +kernel
theorem d_Mo_attach_9 : decode b_Mo_attach 9 = .ok (.ifCond .eq 51, 3) := by decide +kernel
theorem d_Mo_attach_12 : decode b_Mo_attach 12 = .ok (.iload_n 2, 1) := by decide +kernel
theorem d_Mo_attach_13 : decode b_Mo_attach 13 = .ok (.invokestatic 91, 3) := by decide +kernel
theorem d_Mo_attach_16 : decode b_Mo_attach 16 = .ok (.ifCond .eq 44, 3) := by decide +kernel
theorem d_Mo_attach_19 : decode b_Mo_attach 19 = .ok (.iload_n 3, 1) := by decide +kernel
theorem d_Mo_attach_20 : decode b_Mo_attach 20 = .ok (.iconst 1, 1) := by decide +kernel
theorem d_Mo_attach_21 : decode b_Mo_attach 21 = .ok (.if_icmp .lt 39, 3) := by decide +kernel
theorem d_Mo_attach_24 : decode b_Mo_attach 24 = .ok (.iload_n 3, 1) := by decide +kernel
theorem d_Mo_attach_25 : decode b_Mo_attach 25 = .ok (.bipush 60, 2) := by decide +kernel
theorem d_Mo_attach_27 : decode b_Mo_attach 27 = .ok (.if_icmp .gt 33, 3) := by decide +kernel
theorem d_Mo_attach_30 : decode b_Mo_attach 30 = .ok (.iload 4, 2) := by decide +kernel
theorem d_Mo_attach_32 : decode b_Mo_attach 32 = .ok (.ifCond .lt 28, 3) := by decide +kernel
theorem d_Mo_attach_35 : decode b_Mo_attach 35 = .ok (.iload 4, 2) := by decide +kernel
theorem d_Mo_attach_37 : decode b_Mo_attach 37 = .ok (.bipush 100, 2) := by decide +kernel
theorem d_Mo_attach_39 : decode b_Mo_attach 39 = .ok (.if_icmp .gt 21, 3) := by decide +kernel
theorem d_Mo_attach_42 : decode b_Mo_attach 42 = .ok (.aload_n 0, 1) := by decide +kernel
theorem d_Mo_attach_43 : decode b_Mo_attach 43 = .ok (.iload_n 1, 1) := by decide +kernel
theorem d_Mo_attach_44 : decode b_Mo_attach 44 = .ok (.iload_n 2, 1) := by decide +kernel
theorem d_Mo_attach_45 : decode b_Mo_attach 45 = .ok (.invokevirtual 75, 3) := by decide +kernel
theorem d_Mo_attach_48 : decode b_Mo_attach 48 = .ok (.ifCond .ne 14, 3) := by decide +kernel
theorem d_Mo_attach_51 : decode b_Mo_attach 51 = .ok (.aload_n 0, 1) := by decide +kernel
theorem d_Mo_attach_52 : decode b_Mo_attach 52 = .ok (.iload_n 2, 1) := by decide +kernel
theorem d_Mo_attach_53 : decode b_Mo_attach 53 = .ok (.invokevirtual 79, 3) := by decide +kernel
theorem d_Mo_attach_56 : decode b_Mo_attach 56 = .ok (.iconst 4, 1) := by decide +kernel
theorem d_Mo_attach_57 : decode b_Mo_attach 57 = .ok (.if_icmp .ne 5, 3) := by decide +kernel
theorem d_Mo_attach_60 : decode b_Mo_attach 60 = .ok (.iconst 0, 1) := by decide +kernel
theorem d_Mo_attach_61 : decode b_Mo_attach 61 = .ok (.ireturn, 1) := by decide +kernel
theorem d_Mo_attach_62 : decode b_Mo_attach 62 = .ok (.aload_n 0, 1) := by decide +kernel
theorem d_Mo_attach_63 : decode b_Mo_attach 63 = .ok (.getfield 16, 3) := by decide +kernel
theorem d_Mo_attach_66 : decode b_Mo_attach 66 = .ok (.iload_n 1, 1) := by decide +kernel
theorem d_Mo_attach_67 : decode b_Mo_attach 67 = .ok (.iconst 1, 1) := by decide +kernel
theorem d_Mo_attach_68 : decode b_Mo_attach 68 = .ok (.bastore, 1) := by decide +kernel
theorem d_Mo_attach_69 : decode b_Mo_attach 69 = .ok (.aload_n 0, 1) := by decide +kernel
theorem d_Mo_attach_70 : decode b_Mo_attach 70 = .ok (.getfield 20, 3) := by decide +kernel
theorem d_Mo_attach_73 : decode b_Mo_attach 73 = .ok (.bipush 6, 2) := by decide +kernel
theorem d_Mo_attach_75 : decode b_Mo_attach 75 = .ok (.iload_n 1, 1) := by decide +kernel
theorem d_Mo_attach_76 : decode b_Mo_attach 76 = .ok (.imul, 1) := by decide +kernel
theorem d_Mo_attach_77 : decode b_Mo_attach 77 = .ok (.iload_n 2, 1) := by decide +kernel
theorem d_Mo_attach_78 : decode b_Mo_attach 78 = .ok (.iadd, 1) := by decide +kernel
theorem d_Mo_attach_79 : decode b_Mo_attach 79 = .ok (.iload_n 3, 1) := by decide +kernel
theorem d_Mo_attach_80 : decode b_Mo_attach 80 = .ok (.iastore, 1) := by decide +kernel
theorem d_Mo_attach_81 : decode b_Mo_attach 81 = .ok (.aload_n 0, 1) := by decide +kernel
theorem d_Mo_attach_82 : decode b_Mo_attach 82 = .ok (.getfield 23, 3) := by decide +kernel
theorem d_Mo_attach_85 : decode b_Mo_attach 85 = .ok (.bipush 6, 2) := by decide +kernel
theorem d_Mo_attach_87 : decode b_Mo_attach 87 = .ok (.iload_n 1, 1) := by decide +kernel
theorem d_Mo_attach_88 : decode b_Mo_attach 88 = .ok (.imul, 1) := by decide +kernel
theorem d_Mo_attach_89 : decode b_Mo_attach 89 = .ok (.iload_n 2, 1) := by decide +kernel
theorem d_Mo_attach_90 : decode b_Mo_attach 90 = .ok (.iadd, 1) := by decide +kernel
theorem d_Mo_attach_91 : decode b_Mo_attach 91 = .ok (.iload 4, 2) := by decide +kernel
theorem d_Mo_attach_93 : decode b_Mo_attach 93 = .ok (.iastore, 1) := by decide +kernel
theorem d_Mo_attach_94 : decode b_Mo_attach 94 = .ok (.iconst 1, 1) := by decide +kernel
theorem d_Mo_attach_95 : decode b_Mo_attach 95 = .ok (.ireturn, 1) := by decide +kernel
theorem d_Mo_linksTo_0 : decode b_Mo_linksTo 0 = .ok (.iload_n 1, 1) := by decide +kernel
theorem d_Mo_linksTo_1 : decode b_Mo_linksTo 1 = .ok (.iload_n 2, 1) := by decide +kernel
theorem d_Mo_linksTo_2 : decode b_Mo_linksTo 2 = .ok (.iload_n 3, 1) := by decide +kernel
theorem d_Mo_linksTo_3 : decode b_Mo_linksTo 3 = .ok (.invokestatic 133, 3) := by decide +kernel
theorem d_Mo_linksTo_6 : decode b_Mo_linksTo 6 = .ok (.istore 5, 2) := by decide +kernel
theorem d_Mo_linksTo_8 : decode b_Mo_linksTo 8 = .ok (.iconst 0, 1) := by decide +kernel
theorem d_Mo_linksTo_9 : decode b_Mo_linksTo 9 = .ok (.istore 6, 2) := by decide +kernel
theorem d_Mo_linksTo_11 : decode b_Mo_linksTo 11 = .ok (.iconst 0, 1) := by decide +kernel
theorem d_Mo_linksTo_12 : decode b_Mo_linksTo 12 = .ok (.istore 7, 2) := by decide +kernel
theorem d_Mo_linksTo_14 : decode b_Mo_linksTo 14 = .ok (.iload 7, 2) := by decide +kernel
theorem d_Mo_linksTo_16 : decode b_Mo_linksTo 16 = .ok (.aload_n 0, 1) := by decide +kernel
theorem d_Mo_linksTo_17 : decode b_Mo_linksTo 17 = .ok (.getfield 50, 3) := by decide +kernel
theorem d_Mo_linksTo_20 : decode b_Mo_linksTo 20 = .ok (.iload 5, 2) := by decide +kernel
theorem d_Mo_linksTo_22 : decode b_Mo_linksTo 22 = .ok (.iaload, 1) := by decide +kernel
theorem d_Mo_linksTo_23 : decode b_Mo_linksTo 23 = .ok (.if_icmp .ge 62, 3) := by decide +kernel
theorem d_Mo_linksTo_26 : decode b_Mo_linksTo 26 = .ok (.aload_n 0, 1) := by decide +kernel
theorem d_Mo_linksTo_27 : decode b_Mo_linksTo 27 = .ok (.getfield 32, 3) := by decide +kernel
theorem d_Mo_linksTo_30 : decode b_Mo_linksTo 30 = .ok (.iload 5, 2) := by decide +kernel
theorem d_Mo_linksTo_32 : decode b_Mo_linksTo 32 = .ok (.iaload, 1) := by decide +kernel
theorem d_Mo_linksTo_33 : decode b_Mo_linksTo 33 = .ok (.ifCond .le 52, 3) := by decide +kernel
theorem d_Mo_linksTo_36 : decode b_Mo_linksTo 36 = .ok (.aload_n 0, 1) := by decide +kernel
theorem d_Mo_linksTo_37 : decode b_Mo_linksTo 37 = .ok (.getfield 38, 3) := by decide +kernel
theorem d_Mo_linksTo_40 : decode b_Mo_linksTo 40 = .ok (.iload 5, 2) := by decide +kernel
theorem d_Mo_linksTo_42 : decode b_Mo_linksTo 42 = .ok (.iaload, 1) := by decide +kernel
theorem d_Mo_linksTo_43 : decode b_Mo_linksTo 43 = .ok (.ifCond .le 42, 3) := by decide +kernel
theorem d_Mo_linksTo_46 : decode b_Mo_linksTo 46 = .ok (.iload 6, 2) := by decide +kernel
theorem d_Mo_linksTo_48 : decode b_Mo_linksTo 48 = .ok (.ifCond .ne 24, 3) := by decide +kernel
theorem d_Mo_linksTo_51 : decode b_Mo_linksTo 51 = .ok (.aload_n 0, 1) := by decide +kernel
theorem d_Mo_linksTo_52 : decode b_Mo_linksTo 52 = .ok (.getfield 53, 3) := by decide +kernel
theorem d_Mo_linksTo_55 : decode b_Mo_linksTo 55 = .ok (.bipush 10, 2) := by decide +kernel
theorem d_Mo_linksTo_57 : decode b_Mo_linksTo 57 = .ok (.iload 5, 2) := by decide +kernel
theorem d_Mo_linksTo_59 : decode b_Mo_linksTo 59 = .ok (.imul, 1) := by decide +kernel
theorem d_Mo_linksTo_60 : decode b_Mo_linksTo 60 = .ok (.iload 7, 2) := by decide +kernel
theorem d_Mo_linksTo_62 : decode b_Mo_linksTo 62 = .ok (.iadd, 1) := by decide +kernel
theorem d_Mo_linksTo_63 : decode b_Mo_linksTo 63 = .ok (.iaload, 1) := by decide +kernel
theorem d_Mo_linksTo_64 : decode b_Mo_linksTo 64 = .ok (.bipush 63, 2) := by decide +kernel
theorem d_Mo_linksTo_66 : decode b_Mo_linksTo 66 = .ok (.iand, 1) := by decide +kernel
theorem d_Mo_linksTo_67 : decode b_Mo_linksTo 67 = .ok (.iload 4, 2) := by decide +kernel
theorem d_Mo_linksTo_69 : decode b_Mo_linksTo 69 = .ok (.if_icmp .ne 7, 3) := by decide +kernel
theorem d_Mo_linksTo_72 : decode b_Mo_linksTo 72 = .ok (.iconst 1, 1) := by decide +kernel
theorem d_Mo_linksTo_73 : decode b_Mo_linksTo 73 = .ok (.goto 4, 3) := by decide +kernel
theorem d_Mo_linksTo_76 : decode b_Mo_linksTo 76 = .ok (.iconst 0, 1) := by decide +kernel
theorem d_Mo_linksTo_77 : decode b_Mo_linksTo 77 = .ok (.istore 6, 2) := by decide +kernel
theorem d_Mo_linksTo_79 : decode b_Mo_linksTo 79 = .ok (.iinc 7 1, 3) := by decide +kernel
theorem d_Mo_linksTo_82 : decode b_Mo_linksTo 82 = .ok (.goto (-68), 3) := by decide +kernel
theorem d_Mo_linksTo_85 : decode b_Mo_linksTo 85 = .ok (.iload 6, 2) := by decide +kernel
theorem d_Mo_linksTo_87 : decode b_Mo_linksTo 87 = .ok (.ireturn, 1) := by decide +kernel
theorem d_Mo_lives_0 : decode b_Mo_lives 0 = .ok (.iload_n 1, 1) := by decide +kernel
theorem d_Mo_lives_1 : decode b_Mo_lives 1 = .ok (.iload_n 2, 1) := by decide +kernel
theorem d_Mo_lives_2 : decode b_Mo_lives 2 = .ok (.iload_n 3, 1) := by decide +kernel
theorem d_Mo_lives_3 : decode b_Mo_lives 3 = .ok (.invokestatic 133, 3) := by decide +kernel
theorem d_Mo_lives_6 : decode b_Mo_lives 6 = .ok (.istore 4, 2) := by decide +kernel
theorem d_Mo_lives_8 : decode b_Mo_lives 8 = .ok (.aload_n 0, 1) := by decide +kernel
theorem d_Mo_lives_9 : decode b_Mo_lives 9 = .ok (.getfield 32, 3) := by decide +kernel
theorem d_Mo_lives_12 : decode b_Mo_lives 12 = .ok (.iload 4, 2) := by decide +kernel
theorem d_Mo_lives_14 : decode b_Mo_lives 14 = .ok (.iaload, 1) := by decide +kernel
theorem d_Mo_lives_15 : decode b_Mo_lives 15 = .ok (.ifCond .le 17, 3) := by decide +kernel
theorem d_Mo_lives_18 : decode b_Mo_lives 18 = .ok (.aload_n 0, 1) := by decide +kernel
theorem d_Mo_lives_19 : decode b_Mo_lives 19 = .ok (.getfield 38, 3) := by decide +kernel
theorem d_Mo_lives_22 : decode b_Mo_lives 22 = .ok (.iload 4, 2) := by decide +kernel
theorem d_Mo_lives_24 : decode b_Mo_lives 24 = .ok (.iaload, 1) := by decide +kernel
theorem d_Mo_lives_25 : decode b_Mo_lives 25 = .ok (.ifCond .le 7, 3) := by decide +kernel
theorem d_Mo_lives_28 : decode b_Mo_lives 28 = .ok (.iconst 1, 1) := by decide +kernel
theorem d_Mo_lives_29 : decode b_Mo_lives 29 = .ok (.goto 4, 3) := by decide +kernel
theorem d_Mo_lives_32 : decode b_Mo_lives 32 = .ok (.iconst 0, 1) := by decide +kernel
theorem d_Mo_lives_33 : decode b_Mo_lives 33 = .ok (.ireturn, 1) := by decide +kernel
theorem d_Mo_costs_0 : decode b_Mo_costs 0 = .ok (.iconst 0, 1) := by decide +kernel
theorem d_Mo_costs_1 : decode b_Mo_costs 1 = .ok (.istore_n 3, 1) := by decide +kernel
theorem d_Mo_costs_2 : decode b_Mo_costs 2 = .ok (.iload_n 3, 1) := by decide +kernel
theorem d_Mo_costs_3 : decode b_Mo_costs 3 = .ok (.bipush 42, 2) := by decide +kernel
theorem d_Mo_costs_5 : decode b_Mo_costs 5 = .ok (.if_icmp .ge 16, 3) := by decide +kernel
theorem d_Mo_costs_8 : decode b_Mo_costs 8 = .ok (.aload_n 0, 1) := by decide +kernel
theorem d_Mo_costs_9 : decode b_Mo_costs 9 = .ok (.getfield 65, 3) := by decide +kernel
theorem d_Mo_costs_12 : decode b_Mo_costs 12 = .ok (.iload_n 3, 1) := by decide +kernel
theorem d_Mo_costs_13 : decode b_Mo_costs 13 = .ok (.iconst (-1), 1) := by decide +kernel
theorem d_Mo_costs_14 : decode b_Mo_costs 14 = .ok (.iastore, 1) := by decide +kernel
theorem d_Mo_costs_15 : decode b_Mo_costs 15 = .ok (.iinc 3 1, 3) := by decide +kernel
theorem d_Mo_costs_18 : decode b_Mo_costs 18 = .ok (.goto (-16), 3) := by decide +kernel
theorem d_Mo_costs_21 : decode b_Mo_costs 21 = .ok (.aload_n 0, 1) := by decide +kernel
theorem d_Mo_costs_22 : decode b_Mo_costs 22 = .ok (.getfield 65, 3) := by decide +kernel
theorem d_Mo_costs_25 : decode b_Mo_costs 25 = .ok (.bipush 7, 2) := by decide +kernel
theorem d_Mo_costs_27 : decode b_Mo_costs 27 = .ok (.iload_n 1, 1) := by decide +kernel
theorem d_Mo_costs_28 : decode b_Mo_costs 28 = .ok (.imul, 1) := by decide +kernel
theorem d_Mo_costs_29 : decode b_Mo_costs 29 = .ok (.aload_n 0, 1) := by decide +kernel
theorem d_Mo_costs_30 : decode b_Mo_costs 30 = .ok (.iload_n 1, 1) := by decide +kernel
theorem d_Mo_costs_31 : decode b_Mo_costs 31 = .ok (.iload_n 2, 1) := by decide +kernel
theorem d_Mo_costs_32 : decode b_Mo_costs 32 = .ok (.bipush 7, 2) := by decide +kernel
theorem d_Mo_costs_34 : decode b_Mo_costs 34 = .ok (.iload_n 1, 1) := by decide +kernel
theorem d_Mo_costs_35 : decode b_Mo_costs 35 = .ok (.imul, 1) := by decide +kernel
theorem d_Mo_costs_36 : decode b_Mo_costs 36 = .ok (.invokevirtual 177, 3) := by decide +kernel
theorem d_Mo_costs_39 : decode b_Mo_costs 39 = .ok (.ifCond .eq 7, 3) := by decide +kernel
theorem d_Mo_costs_42 : decode b_Mo_costs 42 = .ok (.iconst 0, 1) := by decide +kernel
theorem d_Mo_costs_43 : decode b_Mo_costs 43 = .ok (.goto 4, 3) := by decide +kernel
theorem d_Mo_costs_46 : decode b_Mo_costs 46 = .ok (.iconst (-1), 1) := by decide +kernel
theorem d_Mo_costs_47 : decode b_Mo_costs 47 = .ok (.iastore, 1) := by decide +kernel
theorem d_Mo_costs_48 : decode b_Mo_costs 48 = .ok (.iconst 1, 1) := by decide +kernel
theorem d_Mo_costs_49 : decode b_Mo_costs 49 = .ok (.istore_n 3, 1) := by decide +kernel
theorem d_Mo_costs_50 : decode b_Mo_costs 50 = .ok (.iload_n 3, 1) := by decide +kernel
theorem d_Mo_costs_51 : decode b_Mo_costs 51 = .ok (.ifCond .eq 154, 3) := by decide +kernel
theorem d_Mo_costs_54 : decode b_Mo_costs 54 = .ok (.iconst 0, 1) := by decide +kernel
theorem d_Mo_costs_55 : decode b_Mo_costs 55 = .ok (.istore_n 3, 1) := by decide +kernel
theorem d_Mo_costs_56 : decode b_Mo_costs 56 = .ok (.iconst 0, 1) := by decide +kernel
theorem d_Mo_costs_57 : decode b_Mo_costs 57 = .ok (.istore 4, 2) := by decide +kernel
theorem d_Mo_costs_59 : decode b_Mo_costs 59 = .ok (.iload 4, 2) := by decide +kernel
theorem d_Mo_costs_61 : decode b_Mo_costs 61 = .ok (.bipush 42, 2) := by decide +kernel
theorem d_Mo_costs_63 : decode b_Mo_costs 63 = .ok (.if_icmp .ge 139, 3) := by decide +kernel
theorem d_Mo_costs_66 : decode b_Mo_costs 66 = .ok (.iload_n 1, 1) := by decide +kernel
theorem d_Mo_costs_67 : decode b_Mo_costs 67 = .ok (.iload_n 2, 1) := by decide +kernel
theorem d_Mo_costs_68 : decode b_Mo_costs 68 = .ok (.iload 4, 2) := by decide +kernel
theorem d_Mo_costs_70 : decode b_Mo_costs 70 = .ok (.invokestatic 133, 3) := by decide +kernel
theorem d_Mo_costs_73 : decode b_Mo_costs 73 = .ok (.istore 5, 2) := by decide +kernel
theorem d_Mo_costs_75 : decode b_Mo_costs 75 = .ok (.iconst 0, 1) := by decide +kernel
theorem d_Mo_costs_76 : decode b_Mo_costs 76 = .ok (.istore 6, 2) := by decide +kernel
theorem d_Mo_costs_78 : decode b_Mo_costs 78 = .ok (.aload_n 0, 1) := by decide +kernel
theorem d_Mo_costs_79 : decode b_Mo_costs 79 = .ok (.getfield 65, 3) := by decide +kernel
theorem d_Mo_costs_82 : decode b_Mo_costs 82 = .ok (.iload 4, 2) := by decide +kernel
theorem d_Mo_costs_84 : decode b_Mo_costs 84 = .ok (.iaload, 1) := by decide +kernel
theorem d_Mo_costs_85 : decode b_Mo_costs 85 = .ok (.ifCond .lt 111, 3) := by decide +kernel
theorem d_Mo_costs_88 : decode b_Mo_costs 88 = .ok (.iload 6, 2) := by decide +kernel
theorem d_Mo_costs_90 : decode b_Mo_costs 90 = .ok (.aload_n 0, 1) := by decide +kernel
theorem d_Mo_costs_91 : decode b_Mo_costs 91 = .ok (.getfield 50, 3) := by decide +kernel
theorem d_Mo_costs_94 : decode b_Mo_costs 94 = .ok (.iload 5, 2) := by decide +kernel
theorem d_Mo_costs_96 : decode b_Mo_costs 96 = .ok (.iaload, 1) := by decide +kernel
theorem d_Mo_costs_97 : decode b_Mo_costs 97 = .ok (.if_icmp .ge 99, 3) := by decide +kernel
theorem d_Mo_costs_100 : decode b_Mo_costs 100 = .ok (.aload_n 0, 1) := by decide +kernel
theorem d_Mo_costs_101 : decode b_Mo_costs 101 = .ok (.getfield 53, 3) := by decide +kernel
theorem d_Mo_costs_104 : decode b_Mo_costs 104 = .ok (.bipush 10, 2) := by decide +kernel
theorem d_Mo_costs_106 : decode b_Mo_costs 106 = .ok (.iload 5, 2) := by decide +kernel
theorem d_Mo_costs_108 : decode b_Mo_costs 108 = .ok (.imul, 1) := by decide +kernel
theorem d_Mo_costs_109 : decode b_Mo_costs 109 = .ok (.iload 6, 2) := by decide +kernel
theorem d_Mo_costs_111 : decode b_Mo_costs 111 = .ok (.iadd, 1) := by decide +kernel
theorem d_Mo_costs_112 : decode b_Mo_costs 112 = .ok (.iaload, 1) := by decide +kernel
theorem d_Mo_costs_113 : decode b_Mo_costs 113 = .ok (.bipush 63, 2) := by decide +kernel
theorem d_Mo_costs_115 : decode b_Mo_costs 115 = .ok (.iand, 1) := by decide +kernel
theorem d_Mo_costs_116 : decode b_Mo_costs 116 = .ok (.istore 7, 2) := by decide +kernel
theorem d_Mo_costs_118 : decode b_Mo_costs 118 = .ok (.aload_n 0, 1) := by decide +kernel
theorem d_Mo_costs_119 : decode b_Mo_costs 119 = .ok (.getfield 65, 3) := by decide +kernel
theorem d_Mo_costs_122 : decode b_Mo_costs 122 = .ok (.iload 4, 2) := by decide +kernel
theorem d_Mo_costs_124 : decode b_Mo_costs 124 = .ok (.iaload, 1) := by decide +kernel
theorem d_Mo_costs_125 : decode b_Mo_costs 125 = .ok (.aload_n 0, 1) := by decide +kernel
theorem d_Mo_costs_126 : decode b_Mo_costs 126 = .ok (.getfield 53, 3) := by decide +kernel
theorem d_Mo_costs_129 : decode b_Mo_costs 129 = .ok (.bipush 10, 2) := by decide +kernel
theorem d_Mo_costs_131 : decode b_Mo_costs 131 = .ok (.iload 5, 2) := by decide +kernel
theorem d_Mo_costs_133 : decode b_Mo_costs 133 = .ok (.imul, 1) := by decide +kernel
theorem d_Mo_costs_134 : decode b_Mo_costs 134 = .ok (.iload 6, 2) := by decide +kernel
theorem d_Mo_costs_136 : decode b_Mo_costs 136 = .ok (.iadd, 1) := by decide +kernel
theorem d_Mo_costs_137 : decode b_Mo_costs 137 = .ok (.iaload, 1) := by decide +kernel
theorem d_Mo_costs_138 : decode b_Mo_costs 138 = .ok (.bipush 6, 2) := by decide +kernel
theorem d_Mo_costs_140 : decode b_Mo_costs 140 = .ok (.ishr, 1) := by decide +kernel
theorem d_Mo_costs_141 : decode b_Mo_costs 141 = .ok (.iadd, 1) := by decide +kernel
theorem d_Mo_costs_142 : decode b_Mo_costs 142 = .ok (.istore 8, 2) := by decide +kernel
theorem d_Mo_costs_144 : decode b_Mo_costs 144 = .ok (.aload_n 0, 1) := by decide +kernel
theorem d_Mo_costs_145 : decode b_Mo_costs 145 = .ok (.getfield 65, 3) := by decide +kernel
theorem d_Mo_costs_148 : decode b_Mo_costs 148 = .ok (.iload 7, 2) := by decide +kernel
theorem d_Mo_costs_150 : decode b_Mo_costs 150 = .ok (.iaload, 1) := by decide +kernel
theorem d_Mo_costs_151 : decode b_Mo_costs 151 = .ok (.ifCond .lt 15, 3) := by decide +kernel
theorem d_Mo_costs_154 : decode b_Mo_costs 154 = .ok (.iload 8, 2) := by decide +kernel
theorem d_Mo_costs_156 : decode b_Mo_costs 156 = .ok (.aload_n 0, 1) := by decide +kernel
theorem d_Mo_costs_157 : decode b_Mo_costs 157 = .ok (.getfield 65, 3) := by decide +kernel
theorem d_Mo_costs_160 : decode b_Mo_costs 160 = .ok (.iload 7, 2) := by decide +kernel
theorem d_Mo_costs_162 : decode b_Mo_costs 162 = .ok (.iaload, 1) := by decide +kernel
theorem d_Mo_costs_163 : decode b_Mo_costs 163 = .ok (.if_icmp .ge 27, 3) := by decide +kernel
theorem d_Mo_costs_166 : decode b_Mo_costs 166 = .ok (.aload_n 0, 1) := by decide +kernel
theorem d_Mo_costs_167 : decode b_Mo_costs 167 = .ok (.iload_n 1, 1) := by decide +kernel
theorem d_Mo_costs_168 : decode b_Mo_costs 168 = .ok (.iload_n 2, 1) := by decide +kernel
theorem d_Mo_costs_169 : decode b_Mo_costs 169 = .ok (.iload 7, 2) := by decide +kernel
theorem d_Mo_costs_171 : decode b_Mo_costs 171 = .ok (.iload 4, 2) := by decide +kernel
theorem d_Mo_costs_173 : decode b_Mo_costs 173 = .ok (.invokevirtual 180, 3) := by decide +kernel
theorem d_Mo_costs_176 : decode b_Mo_costs 176 = .ok (.ifCond .eq 14, 3) := by decide +kernel
theorem d_Mo_costs_179 : decode b_Mo_costs 179 = .ok (.aload_n 0, 1) := by decide +kernel
theorem d_Mo_costs_180 : decode b_Mo_costs 180 = .ok (.getfield 65, 3) := by decide +kernel
theorem d_Mo_costs_183 : decode b_Mo_costs 183 = .ok (.iload 7, 2) := by decide +kernel
theorem d_Mo_costs_185 : decode b_Mo_costs 185 = .ok (.iload 8, 2) := by decide +kernel
theorem d_Mo_costs_187 : decode b_Mo_costs 187 = .ok (.iastore, 1) := by decide +kernel
theorem d_Mo_costs_188 : decode b_Mo_costs 188 = .ok (.iconst 1, 1) := by decide +kernel
theorem d_Mo_costs_189 : decode b_Mo_costs 189 = .ok (.istore_n 3, 1) := by decide +kernel
theorem d_Mo_costs_190 : decode b_Mo_costs 190 = .ok (.iinc 6 1, 3) := by decide +kernel
theorem d_Mo_costs_193 : decode b_Mo_costs 193 = .ok (.goto (-115), 3) := by decide +kernel
theorem d_Mo_costs_196 : decode b_Mo_costs 196 = .ok (.iinc 4 1, 3) := by decide +kernel
theorem d_Mo_costs_199 : decode b_Mo_costs 199 = .ok (.goto (-140), 3) := by decide +kernel
theorem d_Mo_costs_202 : decode b_Mo_costs 202 = .ok (.goto (-152), 3) := by decide +kernel
theorem d_Mo_costs_205 : decode b_Mo_costs 205 = .ok (.return_, 1) := by decide +kernel
theorem d_Mo_onward_0 : decode b_Mo_onward 0 = .ok (.iload_n 0, 1) := by decide +kernel
theorem d_Mo_onward_1 : decode b_Mo_onward 1 = .ok (.bipush 6, 2) := by decide +kernel
theorem d_Mo_onward_3 : decode b_Mo_onward 3 = .ok (.ishr, 1) := by decide +kernel
theorem d_Mo_onward_4 : decode b_Mo_onward 4 = .ok (.iconst 1, 1) := by decide +kernel
theorem d_Mo_onward_5 : decode b_Mo_onward 5 = .ok (.iand, 1) := by decide +kernel
theorem d_Mo_onward_6 : decode b_Mo_onward 6 = .ok (.ifCond .ne 7, 3) := by decide +kernel
theorem d_Mo_onward_9 : decode b_Mo_onward 9 = .ok (.iconst 0, 1) := by decide +kernel
theorem d_Mo_onward_10 : decode b_Mo_onward 10 = .ok (.goto 21, 3) := by decide +kernel
theorem d_Mo_onward_13 : decode b_Mo_onward 13 = .ok (.iload_n 1, 1) := by decide +kernel
theorem d_Mo_onward_14 : decode b_Mo_onward 14 = .ok (.bipush 7, 2) := by decide +kernel
theorem d_Mo_onward_16 : decode b_Mo_onward 16 = .ok (.irem, 1) := by decide +kernel
theorem d_Mo_onward_17 : decode b_Mo_onward 17 = .ok (.ifCond .ne 12, 3) := by decide +kernel
theorem d_Mo_onward_20 : decode b_Mo_onward 20 = .ok (.iconst 1, 1) := by decide +kernel
theorem d_Mo_onward_21 : decode b_Mo_onward 21 = .ok (.iload_n 1, 1) := by decide +kernel
theorem d_Mo_onward_22 : decode b_Mo_onward 22 = .ok (.bipush 7, 2) := by decide +kernel
theorem d_Mo_onward_24 : decode b_Mo_onward 24 = .ok (.idiv, 1) := by decide +kernel
theorem d_Mo_onward_25 : decode b_Mo_onward 25 = .ok (.ishl, 1) := by decide +kernel
theorem d_Mo_onward_26 : decode b_Mo_onward 26 = .ok (.goto 5, 3) := by decide +kernel
theorem d_Mo_onward_29 : decode b_Mo_onward 29 = .ok (.bipush 64, 2) := by decide +kernel
theorem d_Mo_onward_31 : decode b_Mo_onward 31 = .ok (.istore_n 2, 1) := by decide +kernel
theorem d_Mo_onward_32 : decode b_Mo_onward 32 = .ok (.iload_n 0, 1) := by decide +kernel
theorem d_Mo_onward_33 : decode b_Mo_onward 33 = .ok (.bipush 63, 2) := by decide +kernel
theorem d_Mo_onward_35 : decode b_Mo_onward 35 = .ok (.iand, 1) := by decide +kernel
theorem d_Mo_onward_36 : decode b_Mo_onward 36 = .ok (.iload_n 2, 1) := by decide +kernel
theorem d_Mo_onward_37 : decode b_Mo_onward 37 = .ok (.ior, 1) := by decide +kernel
theorem d_Mo_onward_38 : decode b_Mo_onward 38 = .ok (.ireturn, 1) := by decide +kernel
theorem d_Mo_firstHops_0 : decode b_Mo_firstHops 0 = .ok (.iconst 0, 1) := by decide +kernel
theorem d_Mo_firstHops_1 : decode b_Mo_firstHops 1 = .ok (.istore_n 3, 1) := by decide +kernel
theorem d_Mo_firstHops_2 : decode b_Mo_firstHops 2 = .ok (.iload_n 3, 1) := by decide +kernel
theorem d_Mo_firstHops_3 : decode b_Mo_firstHops 3 = .ok (.bipush 42, 2) := by decide +kernel
theorem d_Mo_firstHops_5 : decode b_Mo_firstHops 5 = .ok (.if_icmp .ge 16, 3) := by decide +kernel
theorem d_Mo_firstHops_8 : decode b_Mo_firstHops 8 = .ok (.aload_n 0, 1) := by decide +kernel
theorem d_Mo_firstHops_9 : decode b_Mo_firstHops 9 = .ok (.getfield 68, 3) := by decide +kernel
theorem d_Mo_firstHops_12 : decode b_Mo_firstHops 12 = .ok (.iload_n 3, 1) := by decide +kernel
theorem d_Mo_firstHops_13 : decode b_Mo_firstHops 13 = .ok (.iconst 0, 1) := by decide +kernel
theorem d_Mo_firstHops_14 : decode b_Mo_firstHops 14 = .ok (.iastore, 1) := by decide +kernel
theorem d_Mo_firstHops_15 : decode b_Mo_firstHops 15 = .ok (.iinc 3 1, 3) := by decide +kernel
theorem d_Mo_firstHops_18 : decode b_Mo_firstHops 18 = .ok (.goto (-16), 3) := by decide +kernel
theorem d_Mo_firstHops_21 : decode b_Mo_firstHops 21 = .ok (.aload_n 0, 1) := by decide +kernel
theorem d_Mo_firstHops_22 : decode b_Mo_firstHops 22 = .ok (.getfield 68, 3) := by decide +kernel
theorem d_Mo_firstHops_25 : decode b_Mo_firstHops 25 = .ok (.bipush 7, 2) := by decide +kernel
theorem d_Mo_firstHops_27 : decode b_Mo_firstHops 27 = .ok (.iload_n 1, 1) := by decide +kernel
theorem d_Mo_firstHops_28 : decode b_Mo_firstHops 28 = .ok (.imul, 1) := by decide +kernel
theorem d_Mo_firstHops_29 : decode b_Mo_firstHops 29 = .ok (.bipush 64, 2) := by decide +kernel
theorem d_Mo_firstHops_31 : decode b_Mo_firstHops 31 = .ok (.iastore, 1) := by decide +kernel
theorem d_Mo_firstHops_32 : decode b_Mo_firstHops 32 = .ok (.iconst 1, 1) := by decide +kernel
theorem d_Mo_firstHops_33 : decode b_Mo_firstHops 33 = .ok (.istore_n 3, 1) := by decide +kernel
theorem d_Mo_firstHops_34 : decode b_Mo_firstHops 34 = .ok (.iload_n 3, 1) := by decide +kernel
theorem d_Mo_firstHops_35 : decode b_Mo_firstHops 35 = .ok (.ifCond .eq 223, 3) := by decide +kernel
theorem d_Mo_firstHops_38 : decode b_Mo_firstHops 38 = .ok (.iconst 0, 1) := by decide +kernel
theorem d_Mo_firstHops_39 : decode b_Mo_firstHops 39 = .ok (.istore_n 3, 1) := by decide +kernel
theorem d_Mo_firstHops_40 : decode b_Mo_firstHops 40 = .ok (.iconst 0, 1) := by decide +kernel
theorem d_Mo_firstHops_41 : decode b_Mo_firstHops 41 = .ok (.istore 4, 2) := by decide +kernel
theorem d_Mo_firstHops_43 : decode b_Mo_firstHops 43 = .ok (.iload 4, 2) := by decide +kernel
theorem d_Mo_firstHops_45 : decode b_Mo_firstHops 45 = .ok (.bipush 42, 2) := by decide +kernel
theorem d_Mo_firstHops_47 : decode b_Mo_firstHops 47 = .ok (.if_icmp .ge 208, 3) := by decide +kernel
theorem d_Mo_firstHops_50 : decode b_Mo_firstHops 50 = .ok (.iload_n 1, 1) := by decide +kernel
theorem d_Mo_firstHops_51 : decode b_Mo_firstHops 51 = .ok (.iload_n 2, 1) := by decide +kernel
theorem d_Mo_firstHops_52 : decode b_Mo_firstHops 52 = .ok (.iload 4, 2) := by decide +kernel
theorem d_Mo_firstHops_54 : decode b_Mo_firstHops 54 = .ok (.invokestatic 133, 3) := by decide +kernel
theorem d_Mo_firstHops_57 : decode b_Mo_firstHops 57 = .ok (.istore 5, 2) := by decide +kernel
theorem d_Mo_firstHops_59 : decode b_Mo_firstHops 59 = .ok (.iconst 0, 1) := by decide +kernel
theorem d_Mo_firstHops_60 : decode b_Mo_firstHops 60 = .ok (.istore 6, 2) := by decide +kernel
theorem d_Mo_firstHops_62 : decode b_Mo_firstHops 62 = .ok (.aload_n 0, 1) := by decide +kernel
theorem d_Mo_firstHops_63 : decode b_Mo_firstHops 63 = .ok (.getfield 65, 3) := by decide +kernel
theorem d_Mo_firstHops_66 : decode b_Mo_firstHops 66 = .ok (.iload 4, 2) := by decide +kernel
theorem d_Mo_firstHops_68 : decode b_Mo_firstHops 68 = .ok (.iaload, 1) := by decide +kernel
theorem d_Mo_firstHops_69 : decode b_Mo_firstHops 69 = .ok (.ifCond .lt 180, 3) := by decide +kernel
theorem d_Mo_firstHops_72 : decode b_Mo_firstHops 72 = .ok (.aload_n 0, 1) := by decide +kernel
theorem d_Mo_firstHops_73 : decode b_Mo_firstHops 73 = .ok (.getfield 68, 3) := by decide +kernel
theorem d_Mo_firstHops_76 : decode b_Mo_firstHops 76 = .ok (.iload 4, 2) := by decide +kernel
theorem d_Mo_firstHops_78 : decode b_Mo_firstHops 78 = .ok (.iaload, 1) := by decide +kernel
theorem d_Mo_firstHops_79 : decode b_Mo_firstHops 79 = .ok (.ifCond .eq 170, 3) := by decide +kernel
theorem d_Mo_firstHops_82 : decode b_Mo_firstHops 82 = .ok (.iload 6, 2) := by decide +kernel
theorem d_Mo_firstHops_84 : decode b_Mo_firstHops 84 = .ok (.aload_n 0, 1) := by decide +kernel
theorem d_Mo_firstHops_85 : decode b_Mo_firstHops 85 = .ok (.getfield 50, 3) := by decide +kernel
theorem d_Mo_firstHops_88 : decode b_Mo_firstHops 88 = .ok (.iload 5, 2) := by decide +kernel
theorem d_Mo_firstHops_90 : decode b_Mo_firstHops 90 = .ok (.iaload, 1) := by decide +kernel
theorem d_Mo_firstHops_91 : decode b_Mo_firstHops 91 = .ok (.if_icmp .ge 158, 3) := by decide +kernel
theorem d_Mo_firstHops_94 : decode b_Mo_firstHops 94 = .ok (.aload_n 0, 1) := by decide +kernel
theorem d_Mo_firstHops_95 : decode b_Mo_firstHops 95 = .ok (.getfield 53, 3) := by decide +kernel
theorem d_Mo_firstHops_98 : decode b_Mo_firstHops 98 = .ok (.bipush 10, 2) := by decide +kernel
theorem d_Mo_firstHops_100 : decode b_Mo_firstHops 100 = .ok (.iload 5, 2) := by decide +kernel
theorem d_Mo_firstHops_102 : decode b_Mo_firstHops 102 = .ok (.imul, 1) := by decide +kernel
theorem d_Mo_firstHops_103 : decode b_Mo_firstHops 103 = .ok (.iload 6, 2) := by decide +kernel
theorem d_Mo_firstHops_105 : decode b_Mo_firstHops 105 = .ok (.iadd, 1) := by decide +kernel
theorem d_Mo_firstHops_106 : decode b_Mo_firstHops 106 = .ok (.iaload, 1) := by decide +kernel
theorem d_Mo_firstHops_107 : decode b_Mo_firstHops 107 = .ok (.bipush 63, 2) := by decide +kernel
theorem d_Mo_firstHops_109 : decode b_Mo_firstHops 109 = .ok (.iand, 1) := by decide +kernel
theorem d_Mo_firstHops_110 : decode b_Mo_firstHops 110 = .ok (.istore 7, 2) := by decide +kernel
theorem d_Mo_firstHops_112 : decode b_Mo_firstHops 112 = .ok (.aload_n 0, 1) := by decide +kernel
theorem d_Mo_firstHops_113 : decode b_Mo_firstHops 113 = .ok (.getfield 65, 3) := by decide +kernel
theorem d_Mo_firstHops_116 : decode b_Mo_firstHops 116 = .ok (.iload 7, 2) := by decide +kernel
theorem d_Mo_firstHops_118 : decode b_Mo_firstHops 118 = .ok (.iaload, 1) := by decide +kernel
theorem d_Mo_firstHops_119 : decode b_Mo_firstHops 119 = .ok (.aload_n 0, 1) := by decide +kernel
theorem d_Mo_firstHops_120 : decode b_Mo_firstHops 120 = .ok (.getfield 65, 3) := by decide +kernel
theorem d_Mo_firstHops_123 : decode b_Mo_firstHops 123 = .ok (.iload 4, 2) := by decide +kernel
theorem d_Mo_firstHops_125 : decode b_Mo_firstHops 125 = .ok (.iaload, 1) := by decide +kernel
theorem d_Mo_firstHops_126 : decode b_Mo_firstHops 126 = .ok (.aload_n 0, 1) := by decide +kernel
theorem d_Mo_firstHops_127 : decode b_Mo_firstHops 127 = .ok (.getfield 53, 3) := by decide +kernel
theorem d_Mo_firstHops_130 : decode b_Mo_firstHops 130 = .ok (.bipush 10, 2) := by decide +kernel
theorem d_Mo_firstHops_132 : decode b_Mo_firstHops 132 = .ok (.iload 5, 2) := by decide +kernel
theorem d_Mo_firstHops_134 : decode b_Mo_firstHops 134 = .ok (.imul, 1) := by decide +kernel
theorem d_Mo_firstHops_135 : decode b_Mo_firstHops 135 = .ok (.iload 6, 2) := by decide +kernel
theorem d_Mo_firstHops_137 : decode b_Mo_firstHops 137 = .ok (.iadd, 1) := by decide +kernel
theorem d_Mo_firstHops_138 : decode b_Mo_firstHops 138 = .ok (.iaload, 1) := by decide +kernel
theorem d_Mo_firstHops_139 : decode b_Mo_firstHops 139 = .ok (.bipush 6, 2) := by decide +kernel
theorem d_Mo_firstHops_141 : decode b_Mo_firstHops 141 = .ok (.ishr, 1) := by decide +kernel
theorem d_Mo_firstHops_142 : decode b_Mo_firstHops 142 = .ok (.iadd, 1) := by decide +kernel
theorem d_Mo_firstHops_143 : decode b_Mo_firstHops 143 = .ok (.if_icmp .ne 29, 3) := by decide +kernel
theorem d_Mo_firstHops_146 : decode b_Mo_firstHops 146 = .ok (.iload 7, 2) := by decide +kernel
theorem d_Mo_firstHops_148 : decode b_Mo_firstHops 148 = .ok (.bipush 7, 2) := by decide +kernel
theorem d_Mo_firstHops_150 : decode b_Mo_firstHops 150 = .ok (.iload_n 1, 1) := by decide +kernel
theorem d_Mo_firstHops_151 : decode b_Mo_firstHops 151 = .ok (.imul, 1) := by decide +kernel
theorem d_Mo_firstHops_152 : decode b_Mo_firstHops 152 = .ok (.if_icmp .eq 20, 3) := by decide +kernel
theorem d_Mo_firstHops_155 : decode b_Mo_firstHops 155 = .ok (.aload_n 0, 1) := by decide +kernel
theorem d_Mo_firstHops_156 : decode b_Mo_firstHops 156 = .ok (.iload_n 1, 1) := by decide +kernel
theorem d_Mo_firstHops_157 : decode b_Mo_firstHops 157 = .ok (.iload_n 2, 1) := by decide +kernel
theorem d_Mo_firstHops_158 : decode b_Mo_firstHops 158 = .ok (.iload 7, 2) := by decide +kernel
theorem d_Mo_firstHops_160 : decode b_Mo_firstHops 160 = .ok (.iload 4, 2) := by decide +kernel
theorem d_Mo_firstHops_162 : decode b_Mo_firstHops 162 = .ok (.invokevirtual 180, 3) := by decide +kernel
theorem d_Mo_firstHops_165 : decode b_Mo_firstHops 165 = .ok (.ifCond .eq 7, 3) := by decide +kernel
theorem d_Mo_firstHops_168 : decode b_Mo_firstHops 168 = .ok (.iconst 1, 1) := by decide +kernel
theorem d_Mo_firstHops_169 : decode b_Mo_firstHops 169 = .ok (.goto 4, 3) := by decide +kernel
theorem d_Mo_firstHops_172 : decode b_Mo_firstHops 172 = .ok (.iconst 0, 1) := by decide +kernel
theorem d_Mo_firstHops_173 : decode b_Mo_firstHops 173 = .ok (.istore 8, 2) := by decide +kernel
theorem d_Mo_firstHops_175 : decode b_Mo_firstHops 175 = .ok (.iload 8, 2) := by decide +kernel
theorem d_Mo_firstHops_177 : decode b_Mo_firstHops 177 = .ok (.ifCond .eq 26, 3) := by decide +kernel
theorem d_Mo_firstHops_180 : decode b_Mo_firstHops 180 = .ok (.aload_n 0, 1) := by decide +kernel
theorem d_Mo_firstHops_181 : decode b_Mo_firstHops 181 = .ok (.getfield 68, 3) := by decide +kernel
theorem d_Mo_firstHops_184 : decode b_Mo_firstHops 184 = .ok (.iload 7, 2) := by decide +kernel
theorem d_Mo_firstHops_186 : decode b_Mo_firstHops 186 = .ok (.iaload, 1) := by decide +kernel
theorem d_Mo_firstHops_187 : decode b_Mo_firstHops 187 = .ok (.aload_n 0, 1) := by decide +kernel
theorem d_Mo_firstHops_188 : decode b_Mo_firstHops 188 = .ok (.getfield 68, 3) := by decide +kernel
theorem d_Mo_firstHops_191 : decode b_Mo_firstHops 191 = .ok (.iload 4, 2) := by decide +kernel
theorem d_Mo_firstHops_193 : decode b_Mo_firstHops 193 = .ok (.iaload, 1) := by decide +kernel
theorem d_Mo_firstHops_194 : decode b_Mo_firstHops 194 = .ok (.iload 7, 2) := by decide +kernel
theorem d_Mo_firstHops_196 : decode b_Mo_firstHops 196 = .ok (.invokestatic 183, 3) := by decide +kernel
theorem d_Mo_firstHops_199 : decode b_Mo_firstHops 199 = .ok (.ior, 1) := by decide +kernel
theorem d_Mo_firstHops_200 : decode b_Mo_firstHops 200 = .ok (.goto 10, 3) := by decide +kernel
theorem d_Mo_firstHops_203 : decode b_Mo_firstHops 203 = .ok (.aload_n 0, 1) := by decide +kernel
theorem d_Mo_firstHops_204 : decode b_Mo_firstHops 204 = .ok (.getfield 68, 3) := by decide +kernel
theorem d_Mo_firstHops_207 : decode b_Mo_firstHops 207 = .ok (.iload 7, 2) := by decide +kernel
theorem d_Mo_firstHops_209 : decode b_Mo_firstHops 209 = .ok (.iaload, 1) := by decide +kernel
theorem d_Mo_firstHops_210 : decode b_Mo_firstHops 210 = .ok (.istore 9, 2) := by decide +kernel
theorem d_Mo_firstHops_212 : decode b_Mo_firstHops 212 = .ok (.iload_n 3, 1) := by decide +kernel
theorem d_Mo_firstHops_213 : decode b_Mo_firstHops 213 = .ok (.ifCond .ne 15, 3) := by decide +kernel
theorem d_Mo_firstHops_216 : decode b_Mo_firstHops 216 = .ok (.iload 9, 2) := by decide +kernel
theorem d_Mo_firstHops_218 : decode b_Mo_firstHops 218 = .ok (.aload_n 0, 1) := by decide +kernel
theorem d_Mo_firstHops_219 : decode b_Mo_firstHops 219 = .ok (.getfield 68, 3) := by decide +kernel
theorem d_Mo_firstHops_222 : decode b_Mo_firstHops 222 = .ok (.iload 7, 2) := by decide +kernel
theorem d_Mo_firstHops_224 : decode b_Mo_firstHops 224 = .ok (.iaload, 1) := by decide +kernel
theorem d_Mo_firstHops_225 : decode b_Mo_firstHops 225 = .ok (.if_icmp .eq 7, 3) := by decide +kernel
theorem d_Mo_firstHops_228 : decode b_Mo_firstHops 228 = .ok (.iconst 1, 1) := by decide +kernel
theorem d_Mo_firstHops_229 : decode b_Mo_firstHops 229 = .ok (.goto 4, 3) := by decide +kernel
theorem d_Mo_firstHops_232 : decode b_Mo_firstHops 232 = .ok (.iconst 0, 1) := by decide +kernel
theorem d_Mo_firstHops_233 : decode b_Mo_firstHops 233 = .ok (.istore_n 3, 1) := by decide +kernel
theorem d_Mo_firstHops_234 : decode b_Mo_firstHops 234 = .ok (.aload_n 0, 1) := by decide +kernel
theorem d_Mo_firstHops_235 : decode b_Mo_firstHops 235 = .ok (.getfield 68, 3) := by decide +kernel
theorem d_Mo_firstHops_238 : decode b_Mo_firstHops 238 = .ok (.iload 7, 2) := by decide +kernel
theorem d_Mo_firstHops_240 : decode b_Mo_firstHops 240 = .ok (.iload 9, 2) := by decide +kernel
theorem d_Mo_firstHops_242 : decode b_Mo_firstHops 242 = .ok (.iastore, 1) := by decide +kernel
theorem d_Mo_firstHops_243 : decode b_Mo_firstHops 243 = .ok (.iinc 6 1, 3) := by decide +kernel
theorem d_Mo_firstHops_246 : decode b_Mo_firstHops 246 = .ok (.goto (-184), 3) := by decide +kernel
theorem d_Mo_firstHops_249 : decode b_Mo_firstHops 249 = .ok (.iinc 4 1, 3) := by decide +kernel
theorem d_Mo_firstHops_252 : decode b_Mo_firstHops 252 = .ok (.goto (-209), 3) := by decide +kernel
theorem d_Mo_firstHops_255 : decode b_Mo_firstHops 255 = .ok (.goto (-221), 3) := by decide +kernel
theorem d_Mo_firstHops_258 : decode b_Mo_firstHops 258 = .ok (.return_, 1) := by decide +kernel
theorem d_Mo_lowest_0 : decode b_Mo_lowest 0 = .ok (.iconst 0, 1) := by decide +kernel
theorem d_Mo_lowest_1 : decode b_Mo_lowest 1 = .ok (.istore_n 1, 1) := by decide +kernel
theorem d_Mo_lowest_2 : decode b_Mo_lowest 2 = .ok (.iload_n 1, 1) := by decide +kernel
theorem d_Mo_lowest_3 : decode b_Mo_lowest 3 = .ok (.bipush 6, 2) := by decide +kernel
theorem d_Mo_lowest_5 : decode b_Mo_lowest 5 = .ok (.if_icmp .ge 17, 3) := by decide +kernel
theorem d_Mo_lowest_8 : decode b_Mo_lowest 8 = .ok (.iload_n 0, 1) := by decide +kernel
theorem d_Mo_lowest_9 : decode b_Mo_lowest 9 = .ok (.iload_n 1, 1) := by decide +kernel
theorem d_Mo_lowest_10 : decode b_Mo_lowest 10 = .ok (.ishr, 1) := by decide +kernel
theorem d_Mo_lowest_11 : decode b_Mo_lowest 11 = .ok (.iconst 1, 1) := by decide +kernel
theorem d_Mo_lowest_12 : decode b_Mo_lowest 12 = .ok (.iand, 1) := by decide +kernel
theorem d_Mo_lowest_13 : decode b_Mo_lowest 13 = .ok (.ifCond .ne 9, 3) := by decide +kernel
theorem d_Mo_lowest_16 : decode b_Mo_lowest 16 = .ok (.iinc 1 1, 3) := by decide +kernel
theorem d_Mo_lowest_19 : decode b_Mo_lowest 19 = .ok (.goto (-17), 3) := by decide +kernel
theorem d_Mo_lowest_22 : decode b_Mo_lowest 22 = .ok (.iload_n 1, 1) := by decide +kernel
theorem d_Mo_lowest_23 : decode b_Mo_lowest 23 = .ok (.ireturn, 1) := by decide +kernel
theorem d_Mo_way_0 : decode b_Mo_way 0 = .ok (.aload_n 0, 1) := by decide +kernel
theorem d_Mo_way_1 : decode b_Mo_way 1 = .ok (.getfield 65, 3) := by decide +kernel
theorem d_Mo_way_4 : decode b_Mo_way 4 = .ok (.bipush 7, 2) := by decide +kernel
theorem d_Mo_way_6 : decode b_Mo_way 6 = .ok (.iload_n 2, 1) := by decide +kernel
theorem d_Mo_way_7 : decode b_Mo_way 7 = .ok (.imul, 1) := by decide +kernel
theorem d_Mo_way_8 : decode b_Mo_way 8 = .ok (.iaload, 1) := by decide +kernel
theorem d_Mo_way_9 : decode b_Mo_way 9 = .ok (.ifCond .lt 8, 3) := by decide +kernel
theorem d_Mo_way_12 : decode b_Mo_way 12 = .ok (.iload_n 2, 1) := by decide +kernel
theorem d_Mo_way_13 : decode b_Mo_way 13 = .ok (.iload_n 1, 1) := by decide +kernel
theorem d_Mo_way_14 : decode b_Mo_way 14 = .ok (.if_icmp .ne 7, 3) := by decide +kernel
theorem d_Mo_way_17 : decode b_Mo_way 17 = .ok (.iconst (-1), 1) := by decide +kernel
theorem d_Mo_way_18 : decode b_Mo_way 18 = .ok (.goto 28, 3) := by decide +kernel
theorem d_Mo_way_21 : decode b_Mo_way 21 = .ok (.aload_n 0, 1) := by decide +kernel
theorem d_Mo_way_22 : decode b_Mo_way 22 = .ok (.getfield 68, 3) := by decide +kernel
theorem d_Mo_way_25 : decode b_Mo_way 25 = .ok (.bipush 7, 2) := by decide +kernel
theorem d_Mo_way_27 : decode b_Mo_way 27 = .ok (.iload_n 2, 1) := by decide +kernel
theorem d_Mo_way_28 : decode b_Mo_way 28 = .ok (.imul, 1) := by decide +kernel
theorem d_Mo_way_29 : decode b_Mo_way 29 = .ok (.iaload, 1) := by decide +kernel
theorem d_Mo_way_30 : decode b_Mo_way 30 = .ok (.invokestatic 186, 3) := by decide +kernel
theorem d_Mo_way_33 : decode b_Mo_way 33 = .ok (.bipush 8, 2) := by decide +kernel
theorem d_Mo_way_35 : decode b_Mo_way 35 = .ok (.aload_n 0, 1) := by decide +kernel
theorem d_Mo_way_36 : decode b_Mo_way 36 = .ok (.getfield 65, 3) := by decide +kernel
theorem d_Mo_way_39 : decode b_Mo_way 39 = .ok (.bipush 7, 2) := by decide +kernel
theorem d_Mo_way_41 : decode b_Mo_way 41 = .ok (.iload_n 2, 1) := by decide +kernel
theorem d_Mo_way_42 : decode b_Mo_way 42 = .ok (.imul, 1) := by decide +kernel
theorem d_Mo_way_43 : decode b_Mo_way 43 = .ok (.iaload, 1) := by decide +kernel
theorem d_Mo_way_44 : decode b_Mo_way 44 = .ok (.imul, 1) := by decide +kernel
theorem d_Mo_way_45 : decode b_Mo_way 45 = .ok (.iadd, 1) := by decide +kernel
theorem d_Mo_way_46 : decode b_Mo_way 46 = .ok (.ireturn, 1) := by decide +kernel
theorem d_Mo_ways_0 : decode b_Mo_ways 0 = .ok (.aload_n 0, 1) := by decide +kernel
theorem d_Mo_ways_1 : decode b_Mo_ways 1 = .ok (.iload_n 1, 1) := by decide +kernel
theorem d_Mo_ways_2 : decode b_Mo_ways 2 = .ok (.iload_n 2, 1) := by decide +kernel
theorem d_Mo_ways_3 : decode b_Mo_ways 3 = .ok (.invokevirtual 189, 3) := by decide +kernel
theorem d_Mo_ways_6 : decode b_Mo_ways 6 = .ok (.aload_n 0, 1) := by decide +kernel
theorem d_Mo_ways_7 : decode b_Mo_ways 7 = .ok (.iload_n 1, 1) := by decide +kernel
theorem d_Mo_ways_8 : decode b_Mo_ways 8 = .ok (.iload_n 2, 1) := by decide +kernel
theorem d_Mo_ways_9 : decode b_Mo_ways 9 = .ok (.invokevirtual 192, 3) := by decide +kernel
theorem d_Mo_ways_12 : decode b_Mo_ways 12 = .ok (.return_, 1) := by decide +kernel
theorem d_Mo_nearest_0 : decode b_Mo_nearest 0 = .ok (.iconst (-1), 1) := by decide +kernel
theorem d_Mo_nearest_1 : decode b_Mo_nearest 1 = .ok (.istore 4, 2) := by decide +kernel
theorem d_Mo_nearest_3 : decode b_Mo_nearest 3 = .ok (.iconst 0, 1) := by decide +kernel
theorem d_Mo_nearest_4 : decode b_Mo_nearest 4 = .ok (.istore 5, 2) := by decide +kernel
theorem d_Mo_nearest_6 : decode b_Mo_nearest 6 = .ok (.iload 5, 2) := by decide +kernel
theorem d_Mo_nearest_8 : decode b_Mo_nearest 8 = .ok (.bipush 6, 2) := by decide +kernel
theorem d_Mo_nearest_10 : decode b_Mo_nearest 10 = .ok (.if_icmp .ge 126, 3) := by decide +kernel
theorem d_Mo_nearest_13 : decode b_Mo_nearest 13 = .ok (.iload_n 1, 1) := by decide +kernel
theorem d_Mo_nearest_14 : decode b_Mo_nearest 14 = .ok (.iload_n 2, 1) := by decide +kernel
theorem d_Mo_nearest_15 : decode b_Mo_nearest 15 = .ok (.bipush 7, 2) := by decide +kernel
theorem d_Mo_nearest_17 : decode b_Mo_nearest 17 = .ok (.iload 5, 2) := by decide +kernel
theorem d_Mo_nearest_19 : decode b_Mo_nearest 19 = .ok (.imul, 1) := by decide +kernel
theorem d_Mo_nearest_20 : decode b_Mo_nearest 20 = .ok (.invokestatic 133, 3) := by decide +kernel
theorem d_Mo_nearest_23 : decode b_Mo_nearest 23 = .ok (.istore 6, 2) := by decide +kernel
theorem d_Mo_nearest_25 : decode b_Mo_nearest 25 = .ok (.aload_n 0, 1) := by decide +kernel
theorem d_Mo_nearest_26 : decode b_Mo_nearest 26 = .ok (.iload_n 1, 1) := by decide +kernel
theorem d_Mo_nearest_27 : decode b_Mo_nearest 27 = .ok (.iload_n 2, 1) := by decide +kernel
theorem d_Mo_nearest_28 : decode b_Mo_nearest 28 = .ok (.bipush 7, 2) := by decide +kernel
theorem d_Mo_nearest_30 : decode b_Mo_nearest 30 = .ok (.iload 5, 2) := by decide +kernel
theorem d_Mo_nearest_32 : decode b_Mo_nearest 32 = .ok (.imul, 1) := by decide +kernel
theorem d_Mo_nearest_33 : decode b_Mo_nearest 33 = .ok (.invokevirtual 177, 3) := by decide +kernel
theorem d_Mo_nearest_36 : decode b_Mo_nearest 36 = .ok (.ifCond .eq 35, 3) := by decide +kernel
theorem d_Mo_nearest_39 : decode b_Mo_nearest 39 = .ok (.iload_n 3, 1) := by decide +kernel
theorem d_Mo_nearest_40 : decode b_Mo_nearest 40 = .ok (.ifCond .ge 16, 3) := by decide +kernel
theorem d_Mo_nearest_43 : decode b_Mo_nearest 43 = .ok (.aload_n 0, 1) := by decide +kernel
theorem d_Mo_nearest_44 : decode b_Mo_nearest 44 = .ok (.getfield 44, 3) := by decide +kernel
theorem d_Mo_nearest_47 : decode b_Mo_nearest 47 = .ok (.iload 6, 2) := by decide +kernel
theorem d_Mo_nearest_49 : decode b_Mo_nearest 49 = .ok (.baload, 1) := by decide +kernel
theorem d_Mo_nearest_50 : decode b_Mo_nearest 50 = .ok (.ifCond .eq 21, 3) := by decide +kernel
theorem d_Mo_nearest_53 : decode b_Mo_nearest 53 = .ok (.goto 14, 3) := by decide +kernel
theorem d_Mo_nearest_56 : decode b_Mo_nearest 56 = .ok (.aload_n 0, 1) := by decide +kernel
theorem d_Mo_nearest_57 : decode b_Mo_nearest 57 = .ok (.getfield 47, 3) := by decide +kernel
theorem d_Mo_nearest_60 : decode b_Mo_nearest 60 = .ok (.iload 6, 2) := by decide +kernel
theorem d_Mo_nearest_62 : decode b_Mo_nearest 62 = .ok (.iaload, 1) := by decide +kernel
theorem d_Mo_nearest_63 : decode b_Mo_nearest 63 = .ok (.iload_n 3, 1) := by decide +kernel
theorem d_Mo_nearest_64 : decode b_Mo_nearest 64 = .ok (.if_icmp .ne 7, 3) := by decide +kernel
theorem d_Mo_nearest_67 : decode b_Mo_nearest 67 = .ok (.iconst 1, 1) := by decide +kernel
theorem d_Mo_nearest_68 : decode b_Mo_nearest 68 = .ok (.goto 4, 3) := by decide +kernel
theorem d_Mo_nearest_71 : decode b_Mo_nearest 71 = .ok (.iconst 0, 1) := by decide +kernel
theorem d_Mo_nearest_72 : decode b_Mo_nearest 72 = .ok (.istore 7, 2) := by decide +kernel
theorem d_Mo_nearest_74 : decode b_Mo_nearest 74 = .ok (.iload 5, 2) := by decide +kernel
theorem d_Mo_nearest_76 : decode b_Mo_nearest 76 = .ok (.iload_n 1, 1) := by decide +kernel
theorem d_Mo_nearest_77 : decode b_Mo_nearest 77 = .ok (.if_icmp .eq 53, 3) := by decide +kernel
theorem d_Mo_nearest_80 : decode b_Mo_nearest 80 = .ok (.iload 7, 2) := by decide +kernel
theorem d_Mo_nearest_82 : decode b_Mo_nearest 82 = .ok (.ifCond .eq 48, 3) := by decide +kernel
theorem d_Mo_nearest_85 : decode b_Mo_nearest 85 = .ok (.aload_n 0, 1) := by decide +kernel
theorem d_Mo_nearest_86 : decode b_Mo_nearest 86 = .ok (.getfield 65, 3) := by decide +kernel
theorem d_Mo_nearest_89 : decode b_Mo_nearest 89 = .ok (.bipush 7, 2) := by decide +kernel
theorem d_Mo_nearest_91 : decode b_Mo_nearest 91 = .ok (.iload 5, 2) := by decide +kernel
theorem d_Mo_nearest_93 : decode b_Mo_nearest 93 = .ok (.imul, 1) := by decide +kernel
theorem d_Mo_nearest_94 : decode b_Mo_nearest 94 = .ok (.iaload, 1) := by decide +kernel
theorem d_Mo_nearest_95 : decode b_Mo_nearest 95 = .ok (.ifCond .lt 35, 3) := by decide +kernel
theorem d_Mo_nearest_98 : decode b_Mo_nearest 98 = .ok (.iload 4, 2) := by decide +kernel
theorem d_Mo_nearest_100 : decode b_Mo_nearest 100 = .ok (.ifCond .lt 26, 3) := by decide +kernel
theorem d_Mo_nearest_103 : decode b_Mo_nearest 103 = .ok (.aload_n 0, 1) := by decide +kernel
theorem d_Mo_nearest_104 : decode b_Mo_nearest 104 = .ok (.getfield 65, 3) := by decide +kernel
theorem d_Mo_nearest_107 : decode b_Mo_nearest 107 = .ok (.bipush 7, 2) := by decide +kernel
theorem d_Mo_nearest_109 : decode b_Mo_nearest 109 = .ok (.iload 5, 2) := by decide +kernel
theorem d_Mo_nearest_111 : decode b_Mo_nearest 111 = .ok (.imul, 1) := by decide +kernel
theorem d_Mo_nearest_112 : decode b_Mo_nearest 112 = .ok (.iaload, 1) := by decide +kernel
theorem d_Mo_nearest_113 : decode b_Mo_nearest 113 = .ok (.aload_n 0, 1) := by decide +kernel
theorem d_Mo_nearest_114 : decode b_Mo_nearest 114 = .ok (.getfield 65, 3) := by decide +kernel
theorem d_Mo_nearest_117 : decode b_Mo_nearest 117 = .ok (.bipush 7, 2) := by decide +kernel
theorem d_Mo_nearest_119 : decode b_Mo_nearest 119 = .ok (.iload 4, 2) := by decide +kernel
theorem d_Mo_nearest_121 : decode b_Mo_nearest 121 = .ok (.imul, 1) := by decide +kernel
theorem d_Mo_nearest_122 : decode b_Mo_nearest 122 = .ok (.iaload, 1) := by decide +kernel
theorem d_Mo_nearest_123 : decode b_Mo_nearest 123 = .ok (.if_icmp .ge 7, 3) := by decide +kernel
theorem d_Mo_nearest_126 : decode b_Mo_nearest 126 = .ok (.iload 5, 2) := by decide +kernel
theorem d_Mo_nearest_128 : decode b_Mo_nearest 128 = .ok (.istore 4, 2) := by decide +kernel
theorem d_Mo_nearest_130 : decode b_Mo_nearest 130 = .ok (.iinc 5 1, 3) := by decide +kernel
theorem d_Mo_nearest_133 : decode b_Mo_nearest 133 = .ok (.goto (-127), 3) := by decide +kernel
theorem d_Mo_nearest_136 : decode b_Mo_nearest 136 = .ok (.iload 4, 2) := by decide +kernel
theorem d_Mo_nearest_138 : decode b_Mo_nearest 138 = .ok (.ifCond .ge 7, 3) := by decide +kernel
theorem d_Mo_nearest_141 : decode b_Mo_nearest 141 = .ok (.iconst (-1), 1) := by decide +kernel
theorem d_Mo_nearest_142 : decode b_Mo_nearest 142 = .ok (.goto 10, 3) := by decide +kernel
theorem d_Mo_nearest_145 : decode b_Mo_nearest 145 = .ok (.aload_n 0, 1) := by decide +kernel
theorem d_Mo_nearest_146 : decode b_Mo_nearest 146 = .ok (.iload_n 1, 1) := by decide +kernel
theorem d_Mo_nearest_147 : decode b_Mo_nearest 147 = .ok (.iload 4, 2) := by decide +kernel
theorem d_Mo_nearest_149 : decode b_Mo_nearest 149 = .ok (.invokevirtual 195, 3) := by decide +kernel
theorem d_Mo_nearest_152 : decode b_Mo_nearest 152 = .ok (.ireturn, 1) := by decide +kernel
theorem d_Mo_routeOf_0 : decode b_Mo_routeOf 0 = .ok (.aload_n 0, 1) := by decide +kernel
theorem d_Mo_routeOf_1 : decode b_Mo_routeOf 1 = .ok (.iload_n 1, 1) := by decide +kernel
theorem d_Mo_routeOf_2 : decode b_Mo_routeOf 2 = .ok (.iconst 1, 1) := by decide +kernel
theorem d_Mo_routeOf_3 : decode b_Mo_routeOf 3 = .ok (.invokevirtual 99, 3) := by decide +kernel
theorem d_Mo_routeOf_6 : decode b_Mo_routeOf 6 = .ok (.ifCond .eq 37, 3) := by decide +kernel
theorem d_Mo_routeOf_9 : decode b_Mo_routeOf 9 = .ok (.aload_n 0, 1) := by decide +kernel
theorem d_Mo_routeOf_10 : decode b_Mo_routeOf 10 = .ok (.getfield 7, 3) := by decide +kernel
theorem d_Mo_routeOf_13 : decode b_Mo_routeOf 13 = .ok (.iload_n 2, 1) := by decide +kernel
theorem d_Mo_routeOf_14 : decode b_Mo_routeOf 14 = .ok (.iaload, 1) := by decide +kernel
theorem d_Mo_routeOf_15 : decode b_Mo_routeOf 15 = .ok (.aload_n 0, 1) := by decide +kernel
theorem d_Mo_routeOf_16 : decode b_Mo_routeOf 16 = .ok (.getfield 7, 3) := by decide +kernel
theorem d_Mo_routeOf_19 : decode b_Mo_routeOf 19 = .ok (.iload_n 1, 1) := by decide +kernel
theorem d_Mo_routeOf_20 : decode b_Mo_routeOf 20 = .ok (.iaload, 1) := by decide +kernel
theorem d_Mo_routeOf_21 : decode b_Mo_routeOf 21 = .ok (.if_icmp .ne 22, 3) := by decide +kernel
theorem d_Mo_routeOf_24 : decode b_Mo_routeOf 24 = .ok (.aload_n 0, 1) := by decide +kernel
theorem d_Mo_routeOf_25 : decode b_Mo_routeOf 25 = .ok (.iload_n 1, 1) := by decide +kernel
theorem d_Mo_routeOf_26 : decode b_Mo_routeOf 26 = .ok (.iconst 1, 1) := by decide +kernel
theorem d_Mo_routeOf_27 : decode b_Mo_routeOf 27 = .ok (.invokevirtual 198, 3) := by decide +kernel
theorem d_Mo_routeOf_30 : decode b_Mo_routeOf 30 = .ok (.aload_n 0, 1) := by decide +kernel
theorem d_Mo_routeOf_31 : decode b_Mo_routeOf 31 = .ok (.iload_n 1, 1) := by decide +kernel
theorem d_Mo_routeOf_32 : decode b_Mo_routeOf 32 = .ok (.iload_n 2, 1) := by decide +kernel
theorem d_Mo_routeOf_33 : decode b_Mo_routeOf 33 = .ok (.invokevirtual 195, 3) := by decide +kernel
theorem d_Mo_routeOf_36 : decode b_Mo_routeOf 36 = .ok (.istore_n 3, 1) := by decide +kernel
theorem d_Mo_routeOf_37 : decode b_Mo_routeOf 37 = .ok (.iload_n 3, 1) := by decide +kernel
theorem d_Mo_routeOf_38 : decode b_Mo_routeOf 38 = .ok (.ifCond .lt 5, 3) := by decide +kernel
theorem d_Mo_routeOf_41 : decode b_Mo_routeOf 41 = .ok (.iload_n 3, 1) := by decide +kernel
theorem d_Mo_routeOf_42 : decode b_Mo_routeOf 42 = .ok (.ireturn, 1) := by decide +kernel
theorem d_Mo_routeOf_43 : decode b_Mo_routeOf 43 = .ok (.aload_n 0, 1) := by decide +kernel
theorem d_Mo_routeOf_44 : decode b_Mo_routeOf 44 = .ok (.iload_n 1, 1) := by decide +kernel
theorem d_Mo_routeOf_45 : decode b_Mo_routeOf 45 = .ok (.iconst 2, 1) := by decide +kernel
theorem d_Mo_routeOf_46 : decode b_Mo_routeOf 46 = .ok (.invokevirtual 99, 3) := by decide +kernel
theorem d_Mo_routeOf_49 : decode b_Mo_routeOf 49 = .ok (.ifCond .eq 22, 3) := by decide +kernel
theorem d_Mo_routeOf_52 : decode b_Mo_routeOf 52 = .ok (.aload_n 0, 1) := by decide +kernel
theorem d_Mo_routeOf_53 : decode b_Mo_routeOf 53 = .ok (.iload_n 1, 1) := by decide +kernel
theorem d_Mo_routeOf_54 : decode b_Mo_routeOf 54 = .ok (.iconst 2, 1) := by decide +kernel
theorem d_Mo_routeOf_55 : decode b_Mo_routeOf 55 = .ok (.invokevirtual 198, 3) := by decide +kernel
theorem d_Mo_routeOf_58 : decode b_Mo_routeOf 58 = .ok (.aload_n 0, 1) := by decide +kernel
theorem d_Mo_routeOf_59 : decode b_Mo_routeOf 59 = .ok (.iload_n 1, 1) := by decide +kernel
theorem d_Mo_routeOf_60 : decode b_Mo_routeOf 60 = .ok (.iconst 2, 1) := by decide +kernel
theorem d_Mo_routeOf_61 : decode b_Mo_routeOf 61 = .ok (.aload_n 0, 1) := by decide +kernel
theorem d_Mo_routeOf_62 : decode b_Mo_routeOf 62 = .ok (.getfield 7, 3) := by decide +kernel
theorem d_Mo_routeOf_65 : decode b_Mo_routeOf 65 = .ok (.iload_n 2, 1) := by decide +kernel
theorem d_Mo_routeOf_66 : decode b_Mo_routeOf 66 = .ok (.iaload, 1) := by decide +kernel
theorem d_Mo_routeOf_67 : decode b_Mo_routeOf 67 = .ok (.invokevirtual 201, 3) := by decide +kernel
theorem d_Mo_routeOf_70 : decode b_Mo_routeOf 70 = .ok (.ireturn, 1) := by decide +kernel
theorem d_Mo_routeOf_71 : decode b_Mo_routeOf 71 = .ok (.aload_n 0, 1) := by decide +kernel
theorem d_Mo_routeOf_72 : decode b_Mo_routeOf 72 = .ok (.iload_n 1, 1) := by decide +kernel
theorem d_Mo_routeOf_73 : decode b_Mo_routeOf 73 = .ok (.iconst 1, 1) := by decide +kernel
theorem d_Mo_routeOf_74 : decode b_Mo_routeOf 74 = .ok (.invokevirtual 198, 3) := by decide +kernel
theorem d_Mo_routeOf_77 : decode b_Mo_routeOf 77 = .ok (.aload_n 0, 1) := by decide +kernel
theorem d_Mo_routeOf_78 : decode b_Mo_routeOf 78 = .ok (.iload_n 1, 1) := by decide +kernel
theorem d_Mo_routeOf_79 : decode b_Mo_routeOf 79 = .ok (.iconst 1, 1) := by decide +kernel
theorem d_Mo_routeOf_80 : decode b_Mo_routeOf 80 = .ok (.iconst (-1), 1) := by decide +kernel
theorem d_Mo_routeOf_81 : decode b_Mo_routeOf 81 = .ok (.invokevirtual 201, 3) := by decide +kernel
theorem d_Mo_routeOf_84 : decode b_Mo_routeOf 84 = .ok (.ireturn, 1) := by decide +kernel
theorem d_Mo_route_0 : decode b_Mo_route 0 = .ok (.aload_n 0, 1) := by decide +kernel
theorem d_Mo_route_1 : decode b_Mo_route 1 = .ok (.iconst 0, 1) := by decide +kernel
theorem d_Mo_route_2 : decode b_Mo_route 2 = .ok (.putfield 71, 3) := by decide +kernel
theorem d_Mo_route_5 : decode b_Mo_route 5 = .ok (.iload_n 1, 1) := by decide +kernel
theorem d_Mo_route_6 : decode b_Mo_route 6 = .ok (.invokestatic 91, 3) := by decide +kernel
theorem d_Mo_route_9 : decode b_Mo_route 9 = .ok (.ifCond .eq 24, 3) := by decide +kernel
theorem d_Mo_route_12 : decode b_Mo_route 12 = .ok (.iload_n 2, 1) := by decide +kernel
theorem d_Mo_route_13 : decode b_Mo_route 13 = .ok (.invokestatic 91, 3) := by decide +kernel
theorem d_Mo_route_16 : decode b_Mo_route 16 = .ok (.ifCond .eq 17, 3) := by decide +kernel
theorem d_Mo_route_19 : decode b_Mo_route 19 = .ok (.iload_n 1, 1) := by decide +kernel
theorem d_Mo_route_20 : decode b_Mo_route 20 = .ok (.iload_n 2, 1) := by decide +kernel
theorem d_Mo_route_21 : decode b_Mo_route 21 = .ok (.if_icmp .eq 12, 3) := by decide +kernel
theorem d_Mo_route_24 : decode b_Mo_route 24 = .ok (.aload_n 0, 1) := by decide +kernel
theorem d_Mo_route_25 : decode b_Mo_route 25 = .ok (.iload_n 1, 1) := by decide +kernel
theorem d_Mo_route_26 : decode b_Mo_route 26 = .ok (.iload_n 2, 1) := by decide +kernel
theorem d_Mo_route_27 : decode b_Mo_route 27 = .ok (.invokevirtual 204, 3) := by decide +kernel
theorem d_Mo_route_30 : decode b_Mo_route 30 = .ok (.goto 4, 3) := by decide +kernel
theorem d_Mo_route_33 : decode b_Mo_route 33 = .ok (.iconst (-1), 1) := by decide +kernel
theorem d_Mo_route_34 : decode b_Mo_route 34 = .ok (.ireturn, 1) := by decide +kernel
theorem d_Mo_trace_0 : decode b_Mo_trace 0 = .ok (.aload_n 0, 1) := by decide +kernel
theorem d_Mo_trace_1 : decode b_Mo_trace 1 = .ok (.iconst 0, 1) := by decide +kernel
theorem d_Mo_trace_2 : decode b_Mo_trace 2 = .ok (.putfield 71, 3) := by decide +kernel
theorem d_Mo_trace_5 : decode b_Mo_trace 5 = .ok (.iload_n 1, 1) := by decide +kernel
theorem d_Mo_trace_6 : decode b_Mo_trace 6 = .ok (.invokestatic 91, 3) := by decide +kernel
theorem d_Mo_trace_9 : decode b_Mo_trace 9 = .ok (.ifCond .eq 10, 3) := by decide +kernel
theorem d_Mo_trace_12 : decode b_Mo_trace 12 = .ok (.iload_n 2, 1) := by decide +kernel
theorem d_Mo_trace_13 : decode b_Mo_trace 13 = .ok (.invokestatic 91, 3) := by decide +kernel
theorem d_Mo_trace_16 : decode b_Mo_trace 16 = .ok (.ifCond .ne 5, 3) := by decide +kernel
theorem d_Mo_trace_19 : decode b_Mo_trace 19 = .ok (.iconst (-1), 1) := by decide +kernel
theorem d_Mo_trace_20 : decode b_Mo_trace 20 = .ok (.ireturn, 1) := by decide +kernel
theorem d_Mo_trace_21 : decode b_Mo_trace 21 = .ok (.iload_n 1, 1) := by decide +kernel
theorem d_Mo_trace_22 : decode b_Mo_trace 22 = .ok (.istore_n 3, 1) := by decide +kernel
theorem d_Mo_trace_23 : decode b_Mo_trace 23 = .ok (.iconst 0, 1) := by decide +kernel
theorem d_Mo_trace_24 : decode b_Mo_trace 24 = .ok (.istore 4, 2) := by decide +kernel
theorem d_Mo_trace_26 : decode b_Mo_trace 26 = .ok (.iload 4, 2) := by decide +kernel
theorem d_Mo_trace_28 : decode b_Mo_trace 28 = .ok (.bipush 10, 2) := by decide +kernel
theorem d_Mo_trace_30 : decode b_Mo_trace 30 = .ok (.if_icmp .gt 38, 3) := by decide +kernel
theorem d_Mo_trace_33 : decode b_Mo_trace 33 = .ok (.iload_n 3, 1) := by decide +kernel
theorem d_Mo_trace_34 : decode b_Mo_trace 34 = .ok (.iload_n 2, 1) := by decide +kernel
theorem d_Mo_trace_35 : decode b_Mo_trace 35 = .ok (.if_icmp .ne 6, 3) := by decide +kernel
theorem d_Mo_trace_38 : decode b_Mo_trace 38 = .ok (.iload 4, 2) := by decide +kernel
theorem d_Mo_trace_40 : decode b_Mo_trace 40 = .ok (.ireturn, 1) := by decide +kernel
theorem d_Mo_trace_41 : decode b_Mo_trace 41 = .ok (.aload_n 0, 1) := by decide +kernel
theorem d_Mo_trace_42 : decode b_Mo_trace 42 = .ok (.iload_n 3, 1) := by decide +kernel
theorem d_Mo_trace_43 : decode b_Mo_trace 43 = .ok (.iload_n 2, 1) := by decide +kernel
theorem d_Mo_trace_44 : decode b_Mo_trace 44 = .ok (.invokevirtual 204, 3) := by decide +kernel
theorem d_Mo_trace_47 : decode b_Mo_trace 47 = .ok (.istore 5, 2) := by decide +kernel
theorem d_Mo_trace_49 : decode b_Mo_trace 49 = .ok (.iload 5, 2) := by decide +kernel
theorem d_Mo_trace_51 : decode b_Mo_trace 51 = .ok (.ifCond .ge 5, 3) := by decide +kernel
theorem d_Mo_trace_54 : decode b_Mo_trace 54 = .ok (.iconst (-1), 1) := by decide +kernel
theorem d_Mo_trace_55 : decode b_Mo_trace 55 = .ok (.ireturn, 1) := by decide +kernel
theorem d_Mo_trace_56 : decode b_Mo_trace 56 = .ok (.iload 5, 2) := by decide +kernel
theorem d_Mo_trace_58 : decode b_Mo_trace 58 = .ok (.bipush 7, 2) := by decide +kernel
theorem d_Mo_trace_60 : decode b_Mo_trace 60 = .ok (.iand, 1) := by decide +kernel
theorem d_Mo_trace_61 : decode b_Mo_trace 61 = .ok (.istore_n 3, 1) := by decide +kernel
theorem d_Mo_trace_62 : decode b_Mo_trace 62 = .ok (.iinc 4 1, 3) := by decide +kernel
theorem d_Mo_trace_65 : decode b_Mo_trace 65 = .ok (.goto (-39), 3) := by decide +kernel
theorem d_Mo_trace_68 : decode b_Mo_trace 68 = .ok (.iconst (-1), 1) := by decide +kernel
theorem d_Mo_trace_69 : decode b_Mo_trace 69 = .ok (.ireturn, 1) := by decide +kernel
theorem d_Mo_neighbour_0 : decode b_Mo_neighbour 0 = .ok (.aload_n 0, 1) := by decide +kernel
theorem d_Mo_neighbour_1 : decode b_Mo_neighbour 1 = .ok (.iconst 0, 1) := by decide +kernel
theorem d_Mo_neighbour_2 : decode b_Mo_neighbour 2 = .ok (.putfield 71, 3) := by decide +kernel
theorem d_Mo_neighbour_5 : decode b_Mo_neighbour 5 = .ok (.iload_n 1, 1) := by decide +kernel
theorem d_Mo_neighbour_6 : decode b_Mo_neighbour 6 = .ok (.invokestatic 91, 3) := by decide +kernel
theorem d_Mo_neighbour_9 : decode b_Mo_neighbour 9 = .ok (.ifCond .eq 44, 3) := by decide +kernel
theorem d_Mo_neighbour_12 : decode b_Mo_neighbour 12 = .ok (.iload_n 2, 1) := by decide +kernel
theorem d_Mo_neighbour_13 : decode b_Mo_neighbour 13 = .ok (.invokestatic 91, 3) := by decide +kernel
theorem d_Mo_neighbour_16 : decode b_Mo_neighbour 16 = .ok (.ifCond .eq 37, 3) := by decide +kernel
theorem d_Mo_neighbour_19 : decode b_Mo_neighbour 19 = .ok (.iload 4, 2) := by decide +kernel
theorem d_Mo_neighbour_21 : decode b_Mo_neighbour 21 = .ok (.invokestatic 91, 3) := by decide +kernel
theorem d_Mo_neighbour_24 : decode b_Mo_neighbour 24 = .ok (.ifCond .eq 29, 3) := by decide +kernel
theorem d_Mo_neighbour_27 : decode b_Mo_neighbour 27 = .ok (.iload_n 3, 1) := by decide +kernel
theorem d_Mo_neighbour_28 : decode b_Mo_neighbour 28 = .ok (.iconst 1, 1) := by decide +kernel
theorem d_Mo_neighbour_29 : decode b_Mo_neighbour 29 = .ok (.if_icmp .eq 8, 3) := by decide +kernel
theorem d_Mo_neighbour_32 : decode b_Mo_neighbour 32 = .ok (.iload_n 3, 1) := by decide +kernel
theorem d_Mo_neighbour_33 : decode b_Mo_neighbour 33 = .ok (.iconst 2, 1) := by decide +kernel
theorem d_Mo_neighbour_34 : decode b_Mo_neighbour 34 = .ok (.if_icmp .ne 19, 3) := by decide +kernel
theorem d_Mo_neighbour_37 : decode b_Mo_neighbour 37 = .ok (.aload_n 0, 1) := by decide +kernel
theorem d_Mo_neighbour_38 : decode b_Mo_neighbour 38 = .ok (.iload_n 1, 1) := by decide +kernel
theorem d_Mo_neighbour_39 : decode b_Mo_neighbour 39 = .ok (.iload_n 2, 1) := by decide +kernel
theorem d_Mo_neighbour_40 : decode b_Mo_neighbour 40 = .ok (.iload_n 3, 1) := by decide +kernel
theorem d_Mo_neighbour_41 : decode b_Mo_neighbour 41 = .ok (.iload 4, 2) := by decide +kernel
theorem d_Mo_neighbour_43 : decode b_Mo_neighbour 43 = .ok (.invokevirtual 87, 3) := by decide +kernel
theorem d_Mo_neighbour_46 : decode b_Mo_neighbour 46 = .ok (.ifCond .eq 7, 3) := by decide +kernel
theorem d_Mo_neighbour_49 : decode b_Mo_neighbour 49 = .ok (.iconst 1, 1) := by decide +kernel
theorem d_Mo_neighbour_50 : decode b_Mo_neighbour 50 = .ok (.goto 4, 3) := by decide +kernel
theorem d_Mo_neighbour_53 : decode b_Mo_neighbour 53 = .ok (.iconst 0, 1) := by decide +kernel
theorem d_Mo_neighbour_54 : decode b_Mo_neighbour 54 = .ok (.ireturn, 1) := by decide +kernel
theorem d_Mo_speaker_0 : decode b_Mo_speaker 0 = .ok (.aload_n 0, 1) := by decide +kernel
theorem d_Mo_speaker_1 : decode b_Mo_speaker 1 = .ok (.iconst 0, 1) := by decide +kernel
theorem d_Mo_speaker_2 : decode b_Mo_speaker 2 = .ok (.putfield 71, 3) := by decide +kernel
theorem d_Mo_speaker_5 : decode b_Mo_speaker 5 = .ok (.iload_n 1, 1) := by decide +kernel
theorem d_Mo_speaker_6 : decode b_Mo_speaker 6 = .ok (.invokestatic 91, 3) := by decide +kernel
theorem d_Mo_speaker_9 : decode b_Mo_speaker 9 = .ok (.ifCond .eq 38, 3) := by decide +kernel
theorem d_Mo_speaker_12 : decode b_Mo_speaker 12 = .ok (.iload_n 2, 1) := by decide +kernel
theorem d_Mo_speaker_13 : decode b_Mo_speaker 13 = .ok (.invokestatic 91, 3) := by decide +kernel
theorem d_Mo_speaker_16 : decode b_Mo_speaker 16 = .ok (.ifCond .eq 31, 3) := by decide +kernel
theorem d_Mo_speaker_19 : decode b_Mo_speaker 19 = .ok (.aload_n 0, 1) := by decide +kernel
theorem d_Mo_speaker_20 : decode b_Mo_speaker 20 = .ok (.iload_n 1, 1) := by decide +kernel
theorem d_Mo_speaker_21 : decode b_Mo_speaker 21 = .ok (.iload_n 3, 1) := by decide +kernel
theorem d_Mo_speaker_22 : decode b_Mo_speaker 22 = .ok (.invokevirtual 99, 3) := by decide +kernel
theorem d_Mo_speaker_25 : decode b_Mo_speaker 25 = .ok (.ifCond .eq 22, 3) := by decide +kernel
theorem d_Mo_speaker_28 : decode b_Mo_speaker 28 = .ok (.aload_n 0, 1) := by decide +kernel
theorem d_Mo_speaker_29 : decode b_Mo_speaker 29 = .ok (.iload_n 1, 1) := by decide +kernel
theorem d_Mo_speaker_30 : decode b_Mo_speaker 30 = .ok (.iload_n 2, 1) := by decide +kernel
theorem d_Mo_speaker_31 : decode b_Mo_speaker 31 = .ok (.invokevirtual 75, 3) := by decide +kernel
theorem d_Mo_speaker_34 : decode b_Mo_speaker 34 = .ok (.ifCond .eq 13, 3) := by decide +kernel
theorem d_Mo_speaker_37 : decode b_Mo_speaker 37 = .ok (.aload_n 0, 1) := by decide +kernel
theorem d_Mo_speaker_38 : decode b_Mo_speaker 38 = .ok (.iload_n 1, 1) := by decide +kernel
theorem d_Mo_speaker_39 : decode b_Mo_speaker 39 = .ok (.iload_n 2, 1) := by decide +kernel
theorem d_Mo_speaker_40 : decode b_Mo_speaker 40 = .ok (.iload_n 3, 1) := by decide +kernel
theorem d_Mo_speaker_41 : decode b_Mo_speaker 41 = .ok (.invokevirtual 118, 3) := by decide +kernel
theorem d_Mo_speaker_44 : decode b_Mo_speaker 44 = .ok (.goto 4, 3) := by decide +kernel
theorem d_Mo_speaker_47 : decode b_Mo_speaker 47 = .ok (.iconst (-1), 1) := by decide +kernel
theorem d_Mo_speaker_48 : decode b_Mo_speaker 48 = .ok (.ireturn, 1) := by decide +kernel
theorem d_Mo_isName_0 : decode b_Mo_isName 0 = .ok (.iload_n 0, 1) := by decide +kernel
theorem d_Mo_isName_1 : decode b_Mo_isName 1 = .ok (.ifCond .lt 13, 3) := by decide +kernel
theorem d_Mo_isName_4 : decode b_Mo_isName 4 = .ok (.iload_n 0, 1) := by decide +kernel
theorem d_Mo_isName_5 : decode b_Mo_isName 5 = .ok (.bipush 42, 2) := by decide +kernel
theorem d_Mo_isName_7 : decode b_Mo_isName 7 = .ok (.if_icmp .ge 7, 3) := by decide +kernel
theorem d_Mo_isName_10 : decode b_Mo_isName 10 = .ok (.iconst 1, 1) := by decide +kernel
theorem d_Mo_isName_11 : decode b_Mo_isName 11 = .ok (.goto 4, 3) := by decide +kernel
theorem d_Mo_isName_14 : decode b_Mo_isName 14 = .ok (.iconst 0, 1) := by decide +kernel
theorem d_Mo_isName_15 : decode b_Mo_isName 15 = .ok (.ireturn, 1) := by decide +kernel
theorem d_Mo_description_0 : decode b_Mo_description 0 = .ok (.aload_n 0, 1) := by decide +kernel
theorem d_Mo_description_1 : decode b_Mo_description 1 = .ok (.iconst 0, 1) := by decide +kernel
theorem d_Mo_description_2 : decode b_Mo_description 2 = .ok (.putfield 71, 3) := by decide +kernel
theorem d_Mo_description_5 : decode b_Mo_description 5 = .ok (.iload_n 1, 1) := by decide +kernel
theorem d_Mo_description_6 : decode b_Mo_description 6 = .ok (.invokestatic 91, 3) := by decide +kernel
theorem d_Mo_description_9 : decode b_Mo_description 9 = .ok (.ifCond .eq 38, 3) := by decide +kernel
theorem d_Mo_description_12 : decode b_Mo_description 12 = .ok (.aload_n 0, 1) := by decide +kernel
theorem d_Mo_description_13 : decode b_Mo_description 13 = .ok (.iload_n 1, 1) := by decide +kernel
theorem d_Mo_description_14 : decode b_Mo_description 14 = .ok (.iload_n 2, 1) := by decide +kernel
theorem d_Mo_description_15 : decode b_Mo_description 15 = .ok (.invokevirtual 99, 3) := by decide +kernel
theorem d_Mo_description_18 : decode b_Mo_description 18 = .ok (.ifCond .eq 29, 3) := by decide +kernel
theorem d_Mo_description_21 : decode b_Mo_description 21 = .ok (.iload_n 3, 1) := by decide +kernel
theorem d_Mo_description_22 : decode b_Mo_description 22 = .ok (.invokestatic 207, 3) := by decide +kernel
theorem d_Mo_description_25 : decode b_Mo_description 25 = .ok (.ifCond .eq 22, 3) := by decide +kernel
theorem d_Mo_description_28 : decode b_Mo_description 28 = .ok (.aload_n 0, 1) := by decide +kernel
theorem d_Mo_description_29 : decode b_Mo_description 29 = .ok (.getfield 32, 3) := by decide +kernel
theorem d_Mo_description_32 : decode b_Mo_description 32 = .ok (.iload_n 1, 1) := by decide +kernel
theorem d_Mo_description_33 : decode b_Mo_description 33 = .ok (.iload_n 2, 1) := by decide +kernel
theorem d_Mo_description_34 : decode b_Mo_description 34 = .ok (.iload_n 3, 1) := by decide +kernel
theorem d_Mo_description_35 : decode b_Mo_description 35 = .ok (.invokestatic 133, 3) := by decide +kernel
theorem d_Mo_description_38 : decode b_Mo_description 38 = .ok (.iaload, 1) := by decide +kernel
theorem d_Mo_description_39 : decode b_Mo_description 39 = .ok (.ifCond .eq 8, 3) := by decide +kernel
theorem d_Mo_description_42 : decode b_Mo_description 42 = .ok (.iload 4, 2) := by decide +kernel
theorem d_Mo_description_44 : decode b_Mo_description 44 = .ok (.ifCond .ge 5, 3) := by decide +kernel
theorem d_Mo_description_47 : decode b_Mo_description 47 = .ok (.iconst (-1), 1) := by decide +kernel
theorem d_Mo_description_48 : decode b_Mo_description 48 = .ok (.ireturn, 1) := by decide +kernel
theorem d_Mo_description_49 : decode b_Mo_description 49 = .ok (.iload_n 1, 1) := by decide +kernel
theorem d_Mo_description_50 : decode b_Mo_description 50 = .ok (.iload_n 2, 1) := by decide +kernel
theorem d_Mo_description_51 : decode b_Mo_description 51 = .ok (.iload_n 3, 1) := by decide +kernel
theorem d_Mo_description_52 : decode b_Mo_description 52 = .ok (.invokestatic 133, 3) := by decide +kernel
theorem d_Mo_description_55 : decode b_Mo_description 55 = .ok (.istore 5, 2) := by decide +kernel
theorem d_Mo_description_57 : decode b_Mo_description 57 = .ok (.iload 4, 2) := by decide +kernel
theorem d_Mo_description_59 : decode b_Mo_description 59 = .ok (.tableswitch 81 0 4 #[33, 41, 49, 65, 73], 33) := by decide +kernel
theorem d_Mo_description_92 : decode b_Mo_description 92 = .ok (.aload_n 0, 1) := by decide +kernel
theorem d_Mo_description_93 : decode b_Mo_description 93 = .ok (.getfield 32, 3) := by decide +kernel
theorem d_Mo_description_96 : decode b_Mo_description 96 = .ok (.iload 5, 2) := by decide +kernel
theorem d_Mo_description_98 : decode b_Mo_description 98 = .ok (.iaload, 1) := by decide +kernel
theorem d_Mo_description_99 : decode b_Mo_description 99 = .ok (.ireturn, 1) := by decide +kernel
theorem d_Mo_description_100 : decode b_Mo_description 100 = .ok (.aload_n 0, 1) := by decide +kernel
theorem d_Mo_description_101 : decode b_Mo_description 101 = .ok (.getfield 38, 3) := by decide +kernel
theorem d_Mo_description_104 : decode b_Mo_description 104 = .ok (.iload 5, 2) := by decide +kernel
theorem d_Mo_description_106 : decode b_Mo_description 106 = .ok (.iaload, 1) := by decide +kernel
theorem d_Mo_description_107 : decode b_Mo_description 107 = .ok (.ireturn, 1) := by decide +kernel
theorem d_Mo_description_108 : decode b_Mo_description 108 = .ok (.aload_n 0, 1) := by decide +kernel
theorem d_Mo_description_109 : decode b_Mo_description 109 = .ok (.getfield 44, 3) := by decide +kernel
theorem d_Mo_description_112 : decode b_Mo_description 112 = .ok (.iload 5, 2) := by decide +kernel
theorem d_Mo_description_114 : decode b_Mo_description 114 = .ok (.baload, 1) := by decide +kernel
theorem d_Mo_description_115 : decode b_Mo_description 115 = .ok (.ifCond .eq 7, 3) := by decide +kernel
theorem d_Mo_description_118 : decode b_Mo_description 118 = .ok (.iconst 1, 1) := by decide +kernel
theorem d_Mo_description_119 : decode b_Mo_description 119 = .ok (.goto 4, 3) := by decide +kernel
theorem d_Mo_description_122 : decode b_Mo_description 122 = .ok (.iconst 0, 1) := by decide +kernel
theorem d_Mo_description_123 : decode b_Mo_description 123 = .ok (.ireturn, 1) := by decide +kernel
theorem d_Mo_description_124 : decode b_Mo_description 124 = .ok (.aload_n 0, 1) := by decide +kernel
theorem d_Mo_description_125 : decode b_Mo_description 125 = .ok (.getfield 47, 3) := by decide +kernel
theorem d_Mo_description_128 : decode b_Mo_description 128 = .ok (.iload 5, 2) := by decide +kernel
theorem d_Mo_description_130 : decode b_Mo_description 130 = .ok (.iaload, 1) := by decide +kernel
theorem d_Mo_description_131 : decode b_Mo_description 131 = .ok (.ireturn, 1) := by decide +kernel
theorem d_Mo_description_132 : decode b_Mo_description 132 = .ok (.aload_n 0, 1) := by decide +kernel
theorem d_Mo_description_133 : decode b_Mo_description 133 = .ok (.getfield 50, 3) := by decide +kernel
theorem d_Mo_description_136 : decode b_Mo_description 136 = .ok (.iload 5, 2) := by decide +kernel
theorem d_Mo_description_138 : decode b_Mo_description 138 = .ok (.iaload, 1) := by decide +kernel
theorem d_Mo_description_139 : decode b_Mo_description 139 = .ok (.ireturn, 1) := by decide +kernel
theorem d_Mo_description_140 : decode b_Mo_description 140 = .ok (.iload 4, 2) := by decide +kernel
theorem d_Mo_description_142 : decode b_Mo_description 142 = .ok (.iconst 5, 1) := by decide +kernel
theorem d_Mo_description_143 : decode b_Mo_description 143 = .ok (.isub, 1) := by decide +kernel
theorem d_Mo_description_144 : decode b_Mo_description 144 = .ok (.aload_n 0, 1) := by decide +kernel
theorem d_Mo_description_145 : decode b_Mo_description 145 = .ok (.getfield 50, 3) := by decide +kernel
theorem d_Mo_description_148 : decode b_Mo_description 148 = .ok (.iload 5, 2) := by decide +kernel
theorem d_Mo_description_150 : decode b_Mo_description 150 = .ok (.iaload, 1) := by decide +kernel
theorem d_Mo_description_151 : decode b_Mo_description 151 = .ok (.if_icmp .ge 21, 3) := by decide +kernel
theorem d_Mo_description_154 : decode b_Mo_description 154 = .ok (.aload_n 0, 1) := by decide +kernel
theorem d_Mo_description_155 : decode b_Mo_description 155 = .ok (.getfield 53, 3) := by decide +kernel
theorem d_Mo_description_158 : decode b_Mo_description 158 = .ok (.bipush 10, 2) := by decide +kernel
theorem d_Mo_description_160 : decode b_Mo_description 160 = .ok (.iload 5, 2) := by decide +kernel
theorem d_Mo_description_162 : decode b_Mo_description 162 = .ok (.imul, 1) := by decide +kernel
theorem d_Mo_description_163 : decode b_Mo_description 163 = .ok (.iload 4, 2) := by decide +kernel
theorem d_Mo_description_165 : decode b_Mo_description 165 = .ok (.iadd, 1) := by decide +kernel
theorem d_Mo_description_166 : decode b_Mo_description 166 = .ok (.iconst 5, 1) := by decide +kernel
theorem d_Mo_description_167 : decode b_Mo_description 167 = .ok (.isub, 1) := by decide +kernel
theorem d_Mo_description_168 : decode b_Mo_description 168 = .ok (.iaload, 1) := by decide +kernel
theorem d_Mo_description_169 : decode b_Mo_description 169 = .ok (.goto 4, 3) := by decide +kernel
theorem d_Mo_description_172 : decode b_Mo_description 172 = .ok (.iconst (-1), 1) := by decide +kernel
theorem d_Mo_description_173 : decode b_Mo_description 173 = .ok (.ireturn, 1) := by decide +kernel
theorem d_Mo_marks_0 : decode b_Mo_marks 0 = .ok (.aload_n 0, 1) := by decide +kernel
theorem d_Mo_marks_1 : decode b_Mo_marks 1 = .ok (.iconst 0, 1) := by decide +kernel
theorem d_Mo_marks_2 : decode b_Mo_marks 2 = .ok (.putfield 71, 3) := by decide +kernel
theorem d_Mo_marks_5 : decode b_Mo_marks 5 = .ok (.iload_n 1, 1) := by decide +kernel
theorem d_Mo_marks_6 : decode b_Mo_marks 6 = .ok (.invokestatic 91, 3) := by decide +kernel
theorem d_Mo_marks_9 : decode b_Mo_marks 9 = .ok (.ifCond .eq 48, 3) := by decide +kernel
theorem d_Mo_marks_12 : decode b_Mo_marks 12 = .ok (.aload_n 0, 1) := by decide +kernel
theorem d_Mo_marks_13 : decode b_Mo_marks 13 = .ok (.iload_n 1, 1) := by decide +kernel
theorem d_Mo_marks_14 : decode b_Mo_marks 14 = .ok (.iload_n 2, 1) := by decide +kernel
theorem d_Mo_marks_15 : decode b_Mo_marks 15 = .ok (.invokevirtual 99, 3) := by decide +kernel
theorem d_Mo_marks_18 : decode b_Mo_marks 18 = .ok (.ifCond .eq 39, 3) := by decide +kernel
theorem d_Mo_marks_21 : decode b_Mo_marks 21 = .ok (.iload_n 3, 1) := by decide +kernel
theorem d_Mo_marks_22 : decode b_Mo_marks 22 = .ok (.invokestatic 207, 3) := by decide +kernel
theorem d_Mo_marks_25 : decode b_Mo_marks 25 = .ok (.ifCond .eq 32, 3) := by decide +kernel
theorem d_Mo_marks_28 : decode b_Mo_marks 28 = .ok (.aload_n 0, 1) := by decide +kernel
theorem d_Mo_marks_29 : decode b_Mo_marks 29 = .ok (.getfield 56, 3) := by decide +kernel
theorem d_Mo_marks_32 : decode b_Mo_marks 32 = .ok (.iload_n 1, 1) := by decide +kernel
theorem d_Mo_marks_33 : decode b_Mo_marks 33 = .ok (.iload_n 2, 1) := by decide +kernel
theorem d_Mo_marks_34 : decode b_Mo_marks 34 = .ok (.iload_n 3, 1) := by decide +kernel
theorem d_Mo_marks_35 : decode b_Mo_marks 35 = .ok (.invokestatic 133, 3) := by decide +kernel
theorem d_Mo_marks_38 : decode b_Mo_marks 38 = .ok (.iaload, 1) := by decide +kernel
theorem d_Mo_marks_39 : decode b_Mo_marks 39 = .ok (.bipush 64, 2) := by decide +kernel
theorem d_Mo_marks_41 : decode b_Mo_marks 41 = .ok (.aload_n 0, 1) := by decide +kernel
theorem d_Mo_marks_42 : decode b_Mo_marks 42 = .ok (.getfield 59, 3) := by decide +kernel
theorem d_Mo_marks_45 : decode b_Mo_marks 45 = .ok (.iload_n 1, 1) := by decide +kernel
theorem d_Mo_marks_46 : decode b_Mo_marks 46 = .ok (.iload_n 2, 1) := by decide +kernel
theorem d_Mo_marks_47 : decode b_Mo_marks 47 = .ok (.iload_n 3, 1) := by decide +kernel
theorem d_Mo_marks_48 : decode b_Mo_marks 48 = .ok (.invokestatic 133, 3) := by decide +kernel
theorem d_Mo_marks_51 : decode b_Mo_marks 51 = .ok (.iaload, 1) := by decide +kernel
theorem d_Mo_marks_52 : decode b_Mo_marks 52 = .ok (.imul, 1) := by decide +kernel
theorem d_Mo_marks_53 : decode b_Mo_marks 53 = .ok (.iadd, 1) := by decide +kernel
theorem d_Mo_marks_54 : decode b_Mo_marks 54 = .ok (.goto 4, 3) := by decide +kernel
theorem d_Mo_marks_57 : decode b_Mo_marks 57 = .ok (.iconst (-1), 1) := by decide +kernel
theorem d_Mo_marks_58 : decode b_Mo_marks 58 = .ok (.ireturn, 1) := by decide +kernel
