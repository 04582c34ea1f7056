theorem dL_walks_31 : decode cL_walks 31 = .ok (.if_icmp .eq 14, 3) := by decide +kernel
theorem dL_walks_34 : decode cL_walks 34 = .ok (.aload_n 0, 1) := by decide +kernel
theorem dL_walks_35 : decode cL_walks 35 = .ok (.iload_n 2, 1) := by decide +kernel
theorem dL_walks_36 : decode cL_walks 36 = .ok (.iconst 1, 1) := by decide +kernel
theorem dL_walks_37 : decode cL_walks 37 = .ok (.invokevirtual 15, 3) := by decide +kernel
theorem dL_walks_40 : decode cL_walks 40 = .ok (.iload 4, 2) := by decide +kernel
theorem dL_walks_42 : decode cL_walks 42 = .ok (.if_icmp .ne 7, 3) := by decide +kernel
theorem dL_walks_45 : decode cL_walks 45 = .ok (.iconst 1, 1) := by decide +kernel
theorem dL_walks_46 : decode cL_walks 46 = .ok (.goto 4, 3) := by decide +kernel
theorem dL_walks_49 : decode cL_walks 49 = .ok (.iconst 0, 1) := by decide +kernel
theorem dL_walks_50 : decode cL_walks 50 = .ok (.istore 6, 2) := by decide +kernel
theorem dL_walks_52 : decode cL_walks 52 = .ok (.iload_n 3, 1) := by decide +kernel
theorem dL_walks_53 : decode cL_walks 53 = .ok (.iload 5, 2) := by decide +kernel
theorem dL_walks_55 : decode cL_walks 55 = .ok (.if_icmp .ge 8, 3) := by decide +kernel
theorem dL_walks_58 : decode cL_walks 58 = .ok (.iload 5, 2) := by decide +kernel
theorem dL_walks_60 : decode cL_walks 60 = .ok (.goto 4, 3) := by decide +kernel
theorem dL_walks_63 : decode cL_walks 63 = .ok (.iload_n 3, 1) := by decide +kernel
theorem dL_walks_64 : decode cL_walks 64 = .ok (.aload_n 0, 1) := by decide +kernel
theorem dL_walks_65 : decode cL_walks 65 = .ok (.iload_n 2, 1) := by decide +kernel
theorem dL_walks_66 : decode cL_walks 66 = .ok (.iconst 2, 1) := by decide +kernel
theorem dL_walks_67 : decode cL_walks 67 = .ok (.invokevirtual 15, 3) := by decide +kernel
theorem dL_walks_70 : decode cL_walks 70 = .ok (.iadd, 1) := by decide +kernel
theorem dL_walks_71 : decode cL_walks 71 = .ok (.istore 7, 2) := by decide +kernel
theorem dL_walks_73 : decode cL_walks 73 = .ok (.aload_n 0, 1) := by decide +kernel
theorem dL_walks_74 : decode cL_walks 74 = .ok (.iload_n 1, 1) := by decide +kernel
theorem dL_walks_75 : decode cL_walks 75 = .ok (.iconst 5, 1) := by decide +kernel
theorem dL_walks_76 : decode cL_walks 76 = .ok (.invokevirtual 22, 3) := by decide +kernel
theorem dL_walks_79 : decode cL_walks 79 = .ok (.ifCond .ne 13, 3) := by decide +kernel
theorem dL_walks_82 : decode cL_walks 82 = .ok (.iload 6, 2) := by decide +kernel
theorem dL_walks_84 : decode cL_walks 84 = .ok (.ifCond .eq 8, 3) := by decide +kernel
theorem dL_walks_87 : decode cL_walks 87 = .ok (.iload 5, 2) := by decide +kernel
theorem dL_walks_89 : decode cL_walks 89 = .ok (.ifCond .ge 8, 3) := by decide +kernel
theorem dL_walks_92 : decode cL_walks 92 = .ok (.bipush (-4), 2) := by decide +kernel
theorem dL_walks_94 : decode cL_walks 94 = .ok (.goto 17, 3) := by decide +kernel
theorem dL_walks_97 : decode cL_walks 97 = .ok (.iload 7, 2) := by decide +kernel
theorem dL_walks_99 : decode cL_walks 99 = .ok (.ldc 42, 2) := by decide +kernel
theorem dL_walks_101 : decode cL_walks 101 = .ok (.if_icmp .le 8, 3) := by decide +kernel
theorem dL_walks_104 : decode cL_walks 104 = .ok (.bipush (-5), 2) := by decide +kernel
theorem dL_walks_106 : decode cL_walks 106 = .ok (.goto 5, 3) := by decide +kernel
theorem dL_walks_109 : decode cL_walks 109 = .ok (.iload 7, 2) := by decide +kernel
theorem dL_walks_111 : decode cL_walks 111 = .ok (.istore 8, 2) := by decide +kernel
theorem dL_walks_113 : decode cL_walks 113 = .ok (.aload_n 0, 1) := by decide +kernel
theorem dL_walks_114 : decode cL_walks 114 = .ok (.iload_n 1, 1) := by decide +kernel
theorem dL_walks_115 : decode cL_walks 115 = .ok (.iload_n 2, 1) := by decide +kernel
theorem dL_walks_116 : decode cL_walks 116 = .ok (.invokevirtual 53, 3) := by decide +kernel
theorem dL_walks_119 : decode cL_walks 119 = .ok (.iload 8, 2) := by decide +kernel
theorem dL_walks_121 : decode cL_walks 121 = .ok (.if_icmp .ne 62, 3) := by decide +kernel
theorem dL_walks_124 : decode cL_walks 124 = .ok (.aload_n 0, 1) := by decide +kernel
theorem dL_walks_125 : decode cL_walks 125 = .ok (.iload_n 1, 1) := by decide +kernel
theorem dL_walks_126 : decode cL_walks 126 = .ok (.iconst 2, 1) := by decide +kernel
theorem dL_walks_127 : decode cL_walks 127 = .ok (.invokevirtual 22, 3) := by decide +kernel
theorem dL_walks_130 : decode cL_walks 130 = .ok (.iload 8, 2) := by decide +kernel
theorem dL_walks_132 : decode cL_walks 132 = .ok (.ifCond .ge 7, 3) := by decide +kernel
theorem dL_walks_135 : decode cL_walks 135 = .ok (.iload_n 3, 1) := by decide +kernel
theorem dL_walks_136 : decode cL_walks 136 = .ok (.goto 5, 3) := by decide +kernel
theorem dL_walks_139 : decode cL_walks 139 = .ok (.iload 7, 2) := by decide +kernel
theorem dL_walks_141 : decode cL_walks 141 = .ok (.if_icmp .ne 42, 3) := by decide +kernel
theorem dL_walks_144 : decode cL_walks 144 = .ok (.aload_n 0, 1) := by decide +kernel
theorem dL_walks_145 : decode cL_walks 145 = .ok (.iload_n 1, 1) := by decide +kernel
theorem dL_walks_146 : decode cL_walks 146 = .ok (.iconst 1, 1) := by decide +kernel
theorem dL_walks_147 : decode cL_walks 147 = .ok (.invokevirtual 22, 3) := by decide +kernel
theorem dL_walks_150 : decode cL_walks 150 = .ok (.iload 8, 2) := by decide +kernel
theorem dL_walks_152 : decode cL_walks 152 = .ok (.ifCond .ge 8, 3) := by decide +kernel
theorem dL_walks_155 : decode cL_walks 155 = .ok (.iload 4, 2) := by decide +kernel
theorem dL_walks_157 : decode cL_walks 157 = .ok (.goto 19, 3) := by decide +kernel
theorem dL_walks_160 : decode cL_walks 160 = .ok (.aload_n 0, 1) := by decide +kernel
theorem dL_walks_161 : decode cL_walks 161 = .ok (.iload_n 2, 1) := by decide +kernel
theorem dL_walks_162 : decode cL_walks 162 = .ok (.iconst 0, 1) := by decide +kernel
theorem dL_walks_163 : decode cL_walks 163 = .ok (.invokevirtual 15, 3) := by decide +kernel
theorem dL_walks_166 : decode cL_walks 166 = .ok (.aload_n 0, 1) := by decide +kernel
theorem dL_walks_167 : decode cL_walks 167 = .ok (.iload_n 2, 1) := by decide +kernel
theorem dL_walks_168 : decode cL_walks 168 = .ok (.iconst 1, 1) := by decide +kernel
theorem dL_walks_169 : decode cL_walks 169 = .ok (.invokevirtual 15, 3) := by decide +kernel
theorem dL_walks_172 : decode cL_walks 172 = .ok (.iadd, 1) := by decide +kernel
theorem dL_walks_173 : decode cL_walks 173 = .ok (.iload 4, 2) := by decide +kernel
theorem dL_walks_175 : decode cL_walks 175 = .ok (.isub, 1) := by decide +kernel
theorem dL_walks_176 : decode cL_walks 176 = .ok (.if_icmp .ne 7, 3) := by decide +kernel
theorem dL_walks_179 : decode cL_walks 179 = .ok (.iconst 1, 1) := by decide +kernel
theorem dL_walks_180 : decode cL_walks 180 = .ok (.goto 4, 3) := by decide +kernel
theorem dL_walks_183 : decode cL_walks 183 = .ok (.iconst 0, 1) := by decide +kernel
theorem dL_walks_184 : decode cL_walks 184 = .ok (.ireturn, 1) := by decide +kernel
theorem dL_unlocks_0 : decode cL_unlocks 0 = .ok (.aload_n 0, 1) := by decide +kernel
theorem dL_unlocks_1 : decode cL_unlocks 1 = .ok (.iload_n 1, 1) := by decide +kernel
theorem dL_unlocks_2 : decode cL_unlocks 2 = .ok (.iconst 2, 1) := by decide +kernel
theorem dL_unlocks_3 : decode cL_unlocks 3 = .ok (.invokevirtual 22, 3) := by decide +kernel
theorem dL_unlocks_6 : decode cL_unlocks 6 = .ok (.istore_n 3, 1) := by decide +kernel
theorem dL_unlocks_7 : decode cL_unlocks 7 = .ok (.aload_n 0, 1) := by decide +kernel
theorem dL_unlocks_8 : decode cL_unlocks 8 = .ok (.iload_n 2, 1) := by decide +kernel
theorem dL_unlocks_9 : decode cL_unlocks 9 = .ok (.iconst 0, 1) := by decide +kernel
theorem dL_unlocks_10 : decode cL_unlocks 10 = .ok (.invokevirtual 15, 3) := by decide +kernel
theorem dL_unlocks_13 : decode cL_unlocks 13 = .ok (.aload_n 0, 1) := by decide +kernel
theorem dL_unlocks_14 : decode cL_unlocks 14 = .ok (.iload_n 1, 1) := by decide +kernel
theorem dL_unlocks_15 : decode cL_unlocks 15 = .ok (.iconst 1, 1) := by decide +kernel
theorem dL_unlocks_16 : decode cL_unlocks 16 = .ok (.invokevirtual 22, 3) := by decide +kernel
theorem dL_unlocks_19 : decode cL_unlocks 19 = .ok (.if_icmp .eq 18, 3) := by decide +kernel
theorem dL_unlocks_22 : decode cL_unlocks 22 = .ok (.aload_n 0, 1) := by decide +kernel
theorem dL_unlocks_23 : decode cL_unlocks 23 = .ok (.iload_n 2, 1) := by decide +kernel
theorem dL_unlocks_24 : decode cL_unlocks 24 = .ok (.iconst 1, 1) := by decide +kernel
theorem dL_unlocks_25 : decode cL_unlocks 25 = .ok (.invokevirtual 15, 3) := by decide +kernel
theorem dL_unlocks_28 : decode cL_unlocks 28 = .ok (.aload_n 0, 1) := by decide +kernel
theorem dL_unlocks_29 : decode cL_unlocks 29 = .ok (.iload_n 1, 1) := by decide +kernel
theorem dL_unlocks_30 : decode cL_unlocks 30 = .ok (.iconst 1, 1) := by decide +kernel
theorem dL_unlocks_31 : decode cL_unlocks 31 = .ok (.invokevirtual 22, 3) := by decide +kernel
theorem dL_unlocks_34 : decode cL_unlocks 34 = .ok (.if_icmp .ne 7, 3) := by decide +kernel
theorem dL_unlocks_37 : decode cL_unlocks 37 = .ok (.iconst 1, 1) := by decide +kernel
theorem dL_unlocks_38 : decode cL_unlocks 38 = .ok (.goto 4, 3) := by decide +kernel
theorem dL_unlocks_41 : decode cL_unlocks 41 = .ok (.iconst 0, 1) := by decide +kernel
theorem dL_unlocks_42 : decode cL_unlocks 42 = .ok (.istore 4, 2) := by decide +kernel
theorem dL_unlocks_44 : decode cL_unlocks 44 = .ok (.iconst (-1), 1) := by decide +kernel
theorem dL_unlocks_45 : decode cL_unlocks 45 = .ok (.istore 5, 2) := by decide +kernel
theorem dL_unlocks_47 : decode cL_unlocks 47 = .ok (.aload_n 0, 1) := by decide +kernel
theorem dL_unlocks_48 : decode cL_unlocks 48 = .ok (.iconst 2, 1) := by decide +kernel
theorem dL_unlocks_49 : decode cL_unlocks 49 = .ok (.invokevirtual 9, 3) := by decide +kernel
theorem dL_unlocks_52 : decode cL_unlocks 52 = .ok (.iconst 1, 1) := by decide +kernel
theorem dL_unlocks_53 : decode cL_unlocks 53 = .ok (.isub, 1) := by decide +kernel
theorem dL_unlocks_54 : decode cL_unlocks 54 = .ok (.istore 6, 2) := by decide +kernel
theorem dL_unlocks_56 : decode cL_unlocks 56 = .ok (.iload 6, 2) := by decide +kernel
theorem dL_unlocks_58 : decode cL_unlocks 58 = .ok (.ifCond .lt 45, 3) := by decide +kernel
theorem dL_unlocks_61 : decode cL_unlocks 61 = .ok (.aload_n 0, 1) := by decide +kernel
theorem dL_unlocks_62 : decode cL_unlocks 62 = .ok (.iload 6, 2) := by decide +kernel
theorem dL_unlocks_64 : decode cL_unlocks 64 = .ok (.iconst 3, 1) := by decide +kernel
theorem dL_unlocks_65 : decode cL_unlocks 65 = .ok (.invokevirtual 34, 3) := by decide +kernel
theorem dL_unlocks_68 : decode cL_unlocks 68 = .ok (.iload_n 1, 1) := by decide +kernel
theorem dL_unlocks_69 : decode cL_unlocks 69 = .ok (.if_icmp .ne 24, 3) := by decide +kernel
theorem dL_unlocks_72 : decode cL_unlocks 72 = .ok (.aload_n 0, 1) := by decide +kernel
theorem dL_unlocks_73 : decode cL_unlocks 73 = .ok (.iload 6, 2) := by decide +kernel
theorem dL_unlocks_75 : decode cL_unlocks 75 = .ok (.iconst 0, 1) := by decide +kernel
theorem dL_unlocks_76 : decode cL_unlocks 76 = .ok (.invokevirtual 34, 3) := by decide +kernel
theorem dL_unlocks_79 : decode cL_unlocks 79 = .ok (.aload_n 0, 1) := by decide +kernel
theorem dL_unlocks_80 : decode cL_unlocks 80 = .ok (.iload_n 2, 1) := by decide +kernel
theorem dL_unlocks_81 : decode cL_unlocks 81 = .ok (.iconst 3, 1) := by decide +kernel
theorem dL_unlocks_82 : decode cL_unlocks 82 = .ok (.invokevirtual 15, 3) := by decide +kernel
theorem dL_unlocks_85 : decode cL_unlocks 85 = .ok (.if_icmp .ne 8, 3) := by decide +kernel
theorem dL_unlocks_88 : decode cL_unlocks 88 = .ok (.iload 6, 2) := by decide +kernel
theorem dL_unlocks_90 : decode cL_unlocks 90 = .ok (.goto 5, 3) := by decide +kernel
theorem dL_unlocks_93 : decode cL_unlocks 93 = .ok (.iload 5, 2) := by decide +kernel
theorem dL_unlocks_95 : decode cL_unlocks 95 = .ok (.istore 5, 2) := by decide +kernel
theorem dL_unlocks_97 : decode cL_unlocks 97 = .ok (.iinc 6 (-1), 3) := by decide +kernel
theorem dL_unlocks_100 : decode cL_unlocks 100 = .ok (.goto (-44), 3) := by decide +kernel
theorem dL_unlocks_103 : decode cL_unlocks 103 = .ok (.iload_n 3, 1) := by decide +kernel
theorem dL_unlocks_104 : decode cL_unlocks 104 = .ok (.aload_n 0, 1) := by decide +kernel
theorem dL_unlocks_105 : decode cL_unlocks 105 = .ok (.iload_n 2, 1) := by decide +kernel
theorem dL_unlocks_106 : decode cL_unlocks 106 = .ok (.iconst 4, 1) := by decide +kernel
theorem dL_unlocks_107 : decode cL_unlocks 107 = .ok (.invokevirtual 15, 3) := by decide +kernel
theorem dL_unlocks_110 : decode cL_unlocks 110 = .ok (.iadd, 1) := by decide +kernel
theorem dL_unlocks_111 : decode cL_unlocks 111 = .ok (.istore 6, 2) := by decide +kernel
theorem dL_unlocks_113 : decode cL_unlocks 113 = .ok (.aload_n 0, 1) := by decide +kernel
theorem dL_unlocks_114 : decode cL_unlocks 114 = .ok (.iload_n 1, 1) := by decide +kernel
theorem dL_unlocks_115 : decode cL_unlocks 115 = .ok (.iconst 5, 1) := by decide +kernel
theorem dL_unlocks_116 : decode cL_unlocks 116 = .ok (.invokevirtual 22, 3) := by decide +kernel
theorem dL_unlocks_119 : decode cL_unlocks 119 = .ok (.ifCond .ne 22, 3) := by decide +kernel
theorem dL_unlocks_122 : decode cL_unlocks 122 = .ok (.iload 4, 2) := by decide +kernel
theorem dL_unlocks_124 : decode cL_unlocks 124 = .ok (.ifCond .eq 17, 3) := by decide +kernel
theorem dL_unlocks_127 : decode cL_unlocks 127 = .ok (.aload_n 0, 1) := by decide +kernel
theorem dL_unlocks_128 : decode cL_unlocks 128 = .ok (.iload_n 2, 1) := by decide +kernel
theorem dL_unlocks_129 : decode cL_unlocks 129 = .ok (.iconst 5, 1) := by decide +kernel
theorem dL_unlocks_130 : decode cL_unlocks 130 = .ok (.invokevirtual 15, 3) := by decide +kernel
theorem dL_unlocks_133 : decode cL_unlocks 133 = .ok (.ifCond .ge 8, 3) := by decide +kernel
theorem dL_unlocks_136 : decode cL_unlocks 136 = .ok (.iload 5, 2) := by decide +kernel
theorem dL_unlocks_138 : decode cL_unlocks 138 = .ok (.ifCond .ge 8, 3) := by decide +kernel
theorem dL_unlocks_141 : decode cL_unlocks 141 = .ok (.bipush (-4), 2) := by decide +kernel
theorem dL_unlocks_143 : decode cL_unlocks 143 = .ok (.goto 17, 3) := by decide +kernel
theorem dL_unlocks_146 : decode cL_unlocks 146 = .ok (.iload 6, 2) := by decide +kernel
theorem dL_unlocks_148 : decode cL_unlocks 148 = .ok (.ldc 42, 2) := by decide +kernel
theorem dL_unlocks_150 : decode cL_unlocks 150 = .ok (.if_icmp .le 8, 3) := by decide +kernel
theorem dL_unlocks_153 : decode cL_unlocks 153 = .ok (.bipush (-5), 2) := by decide +kernel
theorem dL_unlocks_155 : decode cL_unlocks 155 = .ok (.goto 5, 3) := by decide +kernel
theorem dL_unlocks_158 : decode cL_unlocks 158 = .ok (.iload 5, 2) := by decide +kernel
theorem dL_unlocks_160 : decode cL_unlocks 160 = .ok (.istore 7, 2) := by decide +kernel
theorem dL_unlocks_162 : decode cL_unlocks 162 = .ok (.aload_n 0, 1) := by decide +kernel
theorem dL_unlocks_163 : decode cL_unlocks 163 = .ok (.iload_n 1, 1) := by decide +kernel
theorem dL_unlocks_164 : decode cL_unlocks 164 = .ok (.iload_n 2, 1) := by decide +kernel
theorem dL_unlocks_165 : decode cL_unlocks 165 = .ok (.invokevirtual 56, 3) := by decide +kernel
theorem dL_unlocks_168 : decode cL_unlocks 168 = .ok (.iload 7, 2) := by decide +kernel
theorem dL_unlocks_170 : decode cL_unlocks 170 = .ok (.if_icmp .eq 5, 3) := by decide +kernel
theorem dL_unlocks_173 : decode cL_unlocks 173 = .ok (.iconst 0, 1) := by decide +kernel
theorem dL_unlocks_174 : decode cL_unlocks 174 = .ok (.ireturn, 1) := by decide +kernel
theorem dL_unlocks_175 : decode cL_unlocks 175 = .ok (.iload 7, 2) := by decide +kernel
theorem dL_unlocks_177 : decode cL_unlocks 177 = .ok (.ifCond .ge 21, 3) := by decide +kernel
theorem dL_unlocks_180 : decode cL_unlocks 180 = .ok (.aload_n 0, 1) := by decide +kernel
theorem dL_unlocks_181 : decode cL_unlocks 181 = .ok (.iload_n 1, 1) := by decide +kernel
theorem dL_unlocks_182 : decode cL_unlocks 182 = .ok (.iconst 2, 1) := by decide +kernel
theorem dL_unlocks_183 : decode cL_unlocks 183 = .ok (.invokevirtual 22, 3) := by decide +kernel
theorem dL_unlocks_186 : decode cL_unlocks 186 = .ok (.iload_n 3, 1) := by decide +kernel
theorem dL_unlocks_187 : decode cL_unlocks 187 = .ok (.if_icmp .ne 7, 3) := by decide +kernel
theorem dL_unlocks_190 : decode cL_unlocks 190 = .ok (.iconst 1, 1) := by decide +kernel
theorem dL_unlocks_191 : decode cL_unlocks 191 = .ok (.goto 56, 3) := by decide +kernel
theorem dL_unlocks_194 : decode cL_unlocks 194 = .ok (.iconst 0, 1) := by decide +kernel
theorem dL_unlocks_195 : decode cL_unlocks 195 = .ok (.goto 52, 3) := by decide +kernel
theorem dL_unlocks_198 : decode cL_unlocks 198 = .ok (.aload_n 0, 1) := by decide +kernel
theorem dL_unlocks_199 : decode cL_unlocks 199 = .ok (.iload_n 1, 1) := by decide +kernel
theorem dL_unlocks_200 : decode cL_unlocks 200 = .ok (.iconst 2, 1) := by decide +kernel
theorem dL_unlocks_201 : decode cL_unlocks 201 = .ok (.invokevirtual 22, 3) := by decide +kernel
theorem dL_unlocks_204 : decode cL_unlocks 204 = .ok (.iload 6, 2) := by decide +kernel
theorem dL_unlocks_206 : decode cL_unlocks 206 = .ok (.if_icmp .ne 40, 3) := by decide +kernel
theorem dL_unlocks_209 : decode cL_unlocks 209 = .ok (.aload_n 0, 1) := by decide +kernel
theorem dL_unlocks_210 : decode cL_unlocks 210 = .ok (.iload_n 2, 1) := by decide +kernel
theorem dL_unlocks_211 : decode cL_unlocks 211 = .ok (.iconst 5, 1) := by decide +kernel
theorem dL_unlocks_212 : decode cL_unlocks 212 = .ok (.invokevirtual 15, 3) := by decide +kernel
theorem dL_unlocks_215 : decode cL_unlocks 215 = .ok (.iload 6, 2) := by decide +kernel
theorem dL_unlocks_217 : decode cL_unlocks 217 = .ok (.if_icmp .ne 29, 3) := by decide +kernel
theorem dL_unlocks_220 : decode cL_unlocks 220 = .ok (.aload_n 0, 1) := by decide +kernel
theorem dL_unlocks_221 : decode cL_unlocks 221 = .ok (.iload 5, 2) := by decide +kernel
theorem dL_unlocks_223 : decode cL_unlocks 223 = .ok (.iconst 1, 1) := by decide +kernel
theorem dL_unlocks_224 : decode cL_unlocks 224 = .ok (.invokevirtual 34, 3) := by decide +kernel
theorem dL_unlocks_227 : decode cL_unlocks 227 = .ok (.iconst 2, 1) := by decide +kernel
theorem dL_unlocks_228 : decode cL_unlocks 228 = .ok (.if_icmp .ne 18, 3) := by decide +kernel
theorem dL_unlocks_231 : decode cL_unlocks 231 = .ok (.aload_n 0, 1) := by decide +kernel
theorem dL_unlocks_232 : decode cL_unlocks 232 = .ok (.iload 5, 2) := by decide +kernel
theorem dL_unlocks_234 : decode cL_unlocks 234 = .ok (.iconst 4, 1) := by decide +kernel
theorem dL_unlocks_235 : decode cL_unlocks 235 = .ok (.invokevirtual 34, 3) := by decide +kernel
theorem dL_unlocks_238 : decode cL_unlocks 238 = .ok (.iload_n 2, 1) := by decide +kernel
theorem dL_unlocks_239 : decode cL_unlocks 239 = .ok (.if_icmp .ne 7, 3) := by decide +kernel
theorem dL_unlocks_242 : decode cL_unlocks 242 = .ok (.iconst 1, 1) := by decide +kernel
theorem dL_unlocks_243 : decode cL_unlocks 243 = .ok (.goto 4, 3) := by decide +kernel
theorem dL_unlocks_246 : decode cL_unlocks 246 = .ok (.iconst 0, 1) := by decide +kernel
theorem dL_unlocks_247 : decode cL_unlocks 247 = .ok (.ireturn, 1) := by decide +kernel
theorem dL_keys_0 : decode cL_keys 0 = .ok (.aload_n 0, 1) := by decide +kernel
theorem dL_keys_1 : decode cL_keys 1 = .ok (.iload_n 2, 1) := by decide +kernel
theorem dL_keys_2 : decode cL_keys 2 = .ok (.iconst 1, 1) := by decide +kernel
theorem dL_keys_3 : decode cL_keys 3 = .ok (.invokevirtual 34, 3) := by decide +kernel
theorem dL_keys_6 : decode cL_keys 6 = .ok (.istore 4, 2) := by decide +kernel
theorem dL_keys_8 : decode cL_keys 8 = .ok (.aload_n 0, 1) := by decide +kernel
theorem dL_keys_9 : decode cL_keys 9 = .ok (.iload_n 1, 1) := by decide +kernel
theorem dL_keys_10 : decode cL_keys 10 = .ok (.iconst 3, 1) := by decide +kernel
theorem dL_keys_11 : decode cL_keys 11 = .ok (.invokevirtual 22, 3) := by decide +kernel
theorem dL_keys_14 : decode cL_keys 14 = .ok (.istore 5, 2) := by decide +kernel
theorem dL_keys_16 : decode cL_keys 16 = .ok (.aload_n 0, 1) := by decide +kernel
theorem dL_keys_17 : decode cL_keys 17 = .ok (.iload_n 1, 1) := by decide +kernel
theorem dL_keys_18 : decode cL_keys 18 = .ok (.iconst 2, 1) := by decide +kernel
theorem dL_keys_19 : decode cL_keys 19 = .ok (.invokevirtual 22, 3) := by decide +kernel
theorem dL_keys_22 : decode cL_keys 22 = .ok (.istore 6, 2) := by decide +kernel
theorem dL_keys_24 : decode cL_keys 24 = .ok (.aload_n 0, 1) := by decide +kernel
theorem dL_keys_25 : decode cL_keys 25 = .ok (.iload_n 1, 1) := by decide +kernel
theorem dL_keys_26 : decode cL_keys 26 = .ok (.iconst 5, 1) := by decide +kernel
theorem dL_keys_27 : decode cL_keys 27 = .ok (.invokevirtual 22, 3) := by decide +kernel
theorem dL_keys_30 : decode cL_keys 30 = .ok (.ifCond .ne 7, 3) := by decide +kernel
theorem dL_keys_33 : decode cL_keys 33 = .ok (.iconst 1, 1) := by decide +kernel
theorem dL_keys_34 : decode cL_keys 34 = .ok (.goto 4, 3) := by decide +kernel
theorem dL_keys_37 : decode cL_keys 37 = .ok (.iconst 0, 1) := by decide +kernel
theorem dL_keys_38 : decode cL_keys 38 = .ok (.istore 7, 2) := by decide +kernel
theorem dL_keys_40 : decode cL_keys 40 = .ok (.iload_n 3, 1) := by decide +kernel
theorem dL_keys_41 : decode cL_keys 41 = .ok (.ifCond .eq 90, 3) := by decide +kernel
theorem dL_keys_44 : decode cL_keys 44 = .ok (.iload 7, 2) := by decide +kernel
theorem dL_keys_46 : decode cL_keys 46 = .ok (.ifCond .eq 27, 3) := by decide +kernel
theorem dL_keys_49 : decode cL_keys 49 = .ok (.iload 4, 2) := by decide +kernel
theorem dL_keys_51 : decode cL_keys 51 = .ok (.ifCond .ne 22, 3) := by decide +kernel
theorem dL_keys_54 : decode cL_keys 54 = .ok (.aload_n 0, 1) := by decide +kernel
theorem dL_keys_55 : decode cL_keys 55 = .ok (.iload_n 2, 1) := by decide +kernel
theorem dL_keys_56 : decode cL_keys 56 = .ok (.iconst 2, 1) := by decide +kernel
theorem dL_keys_57 : decode cL_keys 57 = .ok (.invokevirtual 34, 3) := by decide +kernel
theorem dL_keys_60 : decode cL_keys 60 = .ok (.aload_n 0, 1) := by decide +kernel
theorem dL_keys_61 : decode cL_keys 61 = .ok (.iload_n 1, 1) := by decide +kernel
theorem dL_keys_62 : decode cL_keys 62 = .ok (.iconst 1, 1) := by decide +kernel
theorem dL_keys_63 : decode cL_keys 63 = .ok (.invokevirtual 22, 3) := by decide +kernel
theorem dL_keys_66 : decode cL_keys 66 = .ok (.if_icmp .ne 7, 3) := by decide +kernel
theorem dL_keys_69 : decode cL_keys 69 = .ok (.iconst 1, 1) := by decide +kernel
theorem dL_keys_70 : decode cL_keys 70 = .ok (.goto 4, 3) := by decide +kernel
theorem dL_keys_73 : decode cL_keys 73 = .ok (.iconst 0, 1) := by decide +kernel
theorem dL_keys_74 : decode cL_keys 74 = .ok (.istore 8, 2) := by decide +kernel
theorem dL_keys_76 : decode cL_keys 76 = .ok (.aload_n 0, 1) := by decide +kernel
theorem dL_keys_77 : decode cL_keys 77 = .ok (.iload_n 1, 1) := by decide +kernel
theorem dL_keys_78 : decode cL_keys 78 = .ok (.iload_n 2, 1) := by decide +kernel
theorem dL_keys_79 : decode cL_keys 79 = .ok (.invokevirtual 59, 3) := by decide +kernel
theorem dL_keys_82 : decode cL_keys 82 = .ok (.iload 8, 2) := by decide +kernel
theorem dL_keys_84 : decode cL_keys 84 = .ok (.ifCond .eq 10, 3) := by decide +kernel
theorem dL_keys_87 : decode cL_keys 87 = .ok (.iload 5, 2) := by decide +kernel
theorem dL_keys_89 : decode cL_keys 89 = .ok (.iconst 1, 1) := by decide +kernel
theorem dL_keys_90 : decode cL_keys 90 = .ok (.iadd, 1) := by decide +kernel
theorem dL_keys_91 : decode cL_keys 91 = .ok (.goto 5, 3) := by decide +kernel
theorem dL_keys_94 : decode cL_keys 94 = .ok (.bipush (-4), 2) := by decide +kernel
theorem dL_keys_96 : decode cL_keys 96 = .ok (.if_icmp .ne 33, 3) := by decide +kernel
theorem dL_keys_99 : decode cL_keys 99 = .ok (.iload 8, 2) := by decide +kernel
theorem dL_keys_101 : decode cL_keys 101 = .ok (.ifCond .eq 24, 3) := by decide +kernel
theorem dL_keys_104 : decode cL_keys 104 = .ok (.aload_n 0, 1) := by decide +kernel
theorem dL_keys_105 : decode cL_keys 105 = .ok (.iload_n 2, 1) := by decide +kernel
theorem dL_keys_106 : decode cL_keys 106 = .ok (.iconst 3, 1) := by decide +kernel
theorem dL_keys_107 : decode cL_keys 107 = .ok (.invokevirtual 34, 3) := by decide +kernel
theorem dL_keys_110 : decode cL_keys 110 = .ok (.iload_n 1, 1) := by decide +kernel
theorem dL_keys_111 : decode cL_keys 111 = .ok (.if_icmp .ne 18, 3) := by decide +kernel
theorem dL_keys_114 : decode cL_keys 114 = .ok (.aload_n 0, 1) := by decide +kernel
theorem dL_keys_115 : decode cL_keys 115 = .ok (.iload_n 1, 1) := by decide +kernel
theorem dL_keys_116 : decode cL_keys 116 = .ok (.iconst 2, 1) := by decide +kernel
theorem dL_keys_117 : decode cL_keys 117 = .ok (.invokevirtual 22, 3) := by decide +kernel
theorem dL_keys_120 : decode cL_keys 120 = .ok (.iload 6, 2) := by decide +kernel
theorem dL_keys_122 : decode cL_keys 122 = .ok (.if_icmp .lt 7, 3) := by decide +kernel
theorem dL_keys_125 : decode cL_keys 125 = .ok (.iconst 1, 1) := by decide +kernel
theorem dL_keys_126 : decode cL_keys 126 = .ok (.goto 4, 3) := by decide +kernel
theorem dL_keys_129 : decode cL_keys 129 = .ok (.iconst 0, 1) := by decide +kernel
theorem dL_keys_130 : decode cL_keys 130 = .ok (.ireturn, 1) := by decide +kernel
theorem dL_keys_131 : decode cL_keys 131 = .ok (.iload 7, 2) := by decide +kernel
theorem dL_keys_133 : decode cL_keys 133 = .ok (.ifCond .eq 23, 3) := by decide +kernel
theorem dL_keys_136 : decode cL_keys 136 = .ok (.iload 4, 2) := by decide +kernel
theorem dL_keys_138 : decode cL_keys 138 = .ok (.iconst 1, 1) := by decide +kernel
theorem dL_keys_139 : decode cL_keys 139 = .ok (.if_icmp .ne 17, 3) := by decide +kernel
theorem dL_keys_142 : decode cL_keys 142 = .ok (.aload_n 0, 1) := by decide +kernel
theorem dL_keys_143 : decode cL_keys 143 = .ok (.iload_n 2, 1) := by decide +kernel
theorem dL_keys_144 : decode cL_keys 144 = .ok (.iconst 3, 1) := by decide +kernel
theorem dL_keys_145 : decode cL_keys 145 = .ok (.invokevirtual 34, 3) := by decide +kernel
theorem dL_keys_148 : decode cL_keys 148 = .ok (.iload_n 1, 1) := by decide +kernel
theorem dL_keys_149 : decode cL_keys 149 = .ok (.if_icmp .ne 7, 3) := by decide +kernel
theorem dL_keys_152 : decode cL_keys 152 = .ok (.iconst 1, 1) := by decide +kernel
theorem dL_keys_153 : decode cL_keys 153 = .ok (.goto 4, 3) := by decide +kernel
theorem dL_keys_156 : decode cL_keys 156 = .ok (.iconst 0, 1) := by decide +kernel
theorem dL_keys_157 : decode cL_keys 157 = .ok (.istore 8, 2) := by decide +kernel
theorem dL_keys_159 : decode cL_keys 159 = .ok (.aload_n 0, 1) := by decide +kernel
theorem dL_keys_160 : decode cL_keys 160 = .ok (.iload_n 1, 1) := by decide +kernel
theorem dL_keys_161 : decode cL_keys 161 = .ok (.iload_n 2, 1) := by decide +kernel
theorem dL_keys_162 : decode cL_keys 162 = .ok (.invokevirtual 62, 3) := by decide +kernel
theorem dL_keys_165 : decode cL_keys 165 = .ok (.iload 8, 2) := by decide +kernel
theorem dL_keys_167 : decode cL_keys 167 = .ok (.ifCond .eq 10, 3) := by decide +kernel
theorem dL_keys_170 : decode cL_keys 170 = .ok (.iload 5, 2) := by decide +kernel
theorem dL_keys_172 : decode cL_keys 172 = .ok (.iconst 1, 1) := by decide +kernel
theorem dL_keys_173 : decode cL_keys 173 = .ok (.isub, 1) := by decide +kernel
theorem dL_keys_174 : decode cL_keys 174 = .ok (.goto 5, 3) := by decide +kernel
theorem dL_keys_177 : decode cL_keys 177 = .ok (.bipush (-4), 2) := by decide +kernel
theorem dL_keys_179 : decode cL_keys 179 = .ok (.if_icmp .ne 38, 3) := by decide +kernel
theorem dL_keys_182 : decode cL_keys 182 = .ok (.iload 8, 2) := by decide +kernel
theorem dL_keys_184 : decode cL_keys 184 = .ok (.ifCond .eq 18, 3) := by decide +kernel
theorem dL_keys_187 : decode cL_keys 187 = .ok (.aload_n 0, 1) := by decide +kernel
theorem dL_keys_188 : decode cL_keys 188 = .ok (.iload_n 2, 1) := by decide +kernel
theorem dL_keys_189 : decode cL_keys 189 = .ok (.iconst 2, 1) := by decide +kernel
theorem dL_keys_190 : decode cL_keys 190 = .ok (.invokevirtual 34, 3) := by decide +kernel
theorem dL_keys_193 : decode cL_keys 193 = .ok (.aload_n 0, 1) := by decide +kernel
theorem dL_keys_194 : decode cL_keys 194 = .ok (.iload_n 1, 1) := by decide +kernel
theorem dL_keys_195 : decode cL_keys 195 = .ok (.iconst 1, 1) := by decide +kernel
theorem dL_keys_196 : decode cL_keys 196 = .ok (.invokevirtual 22, 3) := by decide +kernel
theorem dL_keys_199 : decode cL_keys 199 = .ok (.if_icmp .ne 18, 3) := by decide +kernel
theorem dL_keys_202 : decode cL_keys 202 = .ok (.aload_n 0, 1) := by decide +kernel
theorem dL_keys_203 : decode cL_keys 203 = .ok (.iload_n 1, 1) := by decide +kernel
theorem dL_keys_204 : decode cL_keys 204 = .ok (.iconst 2, 1) := by decide +kernel
theorem dL_keys_205 : decode cL_keys 205 = .ok (.invokevirtual 22, 3) := by decide +kernel
theorem dL_keys_208 : decode cL_keys 208 = .ok (.iload 6, 2) := by decide +kernel
theorem dL_keys_210 : decode cL_keys 210 = .ok (.if_icmp .ne 7, 3) := by decide +kernel
theorem dL_keys_213 : decode cL_keys 213 = .ok (.iconst 1, 1) := by decide +kernel
theorem dL_keys_214 : decode cL_keys 214 = .ok (.goto 4, 3) := by decide +kernel
theorem dL_keys_217 : decode cL_keys 217 = .ok (.iconst 0, 1) := by decide +kernel
theorem dL_keys_218 : decode cL_keys 218 = .ok (.ireturn, 1) := by decide +kernel
theorem dL_parts_0 : decode cL_parts 0 = .ok (.aload_n 0, 1) := by decide +kernel
theorem dL_parts_1 : decode cL_parts 1 = .ok (.iconst 3, 1) := by decide +kernel
