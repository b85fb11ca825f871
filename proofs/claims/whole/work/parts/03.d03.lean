theorem dX9_countOf_65 : decode cX9_countOf 65 = .ok (.getfield 19, 3) := by decide +kernel
theorem dX9_countOf_68 : decode cX9_countOf 68 = .ok (.getfield 110, 3) := by decide +kernel
theorem dX9_countOf_71 : decode cX9_countOf 71 = .ok (.ireturn, 1) := by decide +kernel
theorem dX9_countOf_72 : decode cX9_countOf 72 = .ok (.aload_n 0, 1) := by decide +kernel
theorem dX9_countOf_73 : decode cX9_countOf 73 = .ok (.getfield 19, 3) := by decide +kernel
theorem dX9_countOf_76 : decode cX9_countOf 76 = .ok (.getfield 261, 3) := by decide +kernel
theorem dX9_countOf_79 : decode cX9_countOf 79 = .ok (.ireturn, 1) := by decide +kernel
theorem dX9_countOf_80 : decode cX9_countOf 80 = .ok (.aload_n 0, 1) := by decide +kernel
theorem dX9_countOf_81 : decode cX9_countOf 81 = .ok (.getfield 26, 3) := by decide +kernel
theorem dX9_countOf_84 : decode cX9_countOf 84 = .ok (.getfield 150, 3) := by decide +kernel
theorem dX9_countOf_87 : decode cX9_countOf 87 = .ok (.ireturn, 1) := by decide +kernel
theorem dX9_countOf_88 : decode cX9_countOf 88 = .ok (.aload_n 0, 1) := by decide +kernel
theorem dX9_countOf_89 : decode cX9_countOf 89 = .ok (.getfield 38, 3) := by decide +kernel
theorem dX9_countOf_92 : decode cX9_countOf 92 = .ok (.aload_n 0, 1) := by decide +kernel
theorem dX9_countOf_93 : decode cX9_countOf 93 = .ok (.getfield 26, 3) := by decide +kernel
theorem dX9_countOf_96 : decode cX9_countOf 96 = .ok (.getfield 117, 3) := by decide +kernel
theorem dX9_countOf_99 : decode cX9_countOf 99 = .ok (.invokevirtual 163, 3) := by decide +kernel
theorem dX9_countOf_102 : decode cX9_countOf 102 = .ok (.invokestatic 264, 3) := by decide +kernel
theorem dX9_countOf_105 : decode cX9_countOf 105 = .ok (.ireturn, 1) := by decide +kernel
theorem dX9_countOf_106 : decode cX9_countOf 106 = .ok (.aload_n 0, 1) := by decide +kernel
theorem dX9_countOf_107 : decode cX9_countOf 107 = .ok (.getfield 38, 3) := by decide +kernel
theorem dX9_countOf_110 : decode cX9_countOf 110 = .ok (.aload_n 0, 1) := by decide +kernel
theorem dX9_countOf_111 : decode cX9_countOf 111 = .ok (.getfield 38, 3) := by decide +kernel
theorem dX9_countOf_114 : decode cX9_countOf 114 = .ok (.aload_n 0, 1) := by decide +kernel
theorem dX9_countOf_115 : decode cX9_countOf 115 = .ok (.getfield 26, 3) := by decide +kernel
theorem dX9_countOf_118 : decode cX9_countOf 118 = .ok (.getfield 117, 3) := by decide +kernel
theorem dX9_countOf_121 : decode cX9_countOf 121 = .ok (.invokevirtual 163, 3) := by decide +kernel
theorem dX9_countOf_124 : decode cX9_countOf 124 = .ok (.invokevirtual 166, 3) := by decide +kernel
theorem dX9_countOf_127 : decode cX9_countOf 127 = .ok (.invokestatic 264, 3) := by decide +kernel
theorem dX9_countOf_130 : decode cX9_countOf 130 = .ok (.ireturn, 1) := by decide +kernel
theorem dX9_countOf_131 : decode cX9_countOf 131 = .ok (.aload_n 0, 1) := by decide +kernel
theorem dX9_countOf_132 : decode cX9_countOf 132 = .ok (.getfield 26, 3) := by decide +kernel
theorem dX9_countOf_135 : decode cX9_countOf 135 = .ok (.getfield 178, 3) := by decide +kernel
theorem dX9_countOf_138 : decode cX9_countOf 138 = .ok (.ireturn, 1) := by decide +kernel
theorem dX9_countOf_139 : decode cX9_countOf 139 = .ok (.aload_n 0, 1) := by decide +kernel
theorem dX9_countOf_140 : decode cX9_countOf 140 = .ok (.getfield 26, 3) := by decide +kernel
theorem dX9_countOf_143 : decode cX9_countOf 143 = .ok (.getfield 200, 3) := by decide +kernel
theorem dX9_countOf_146 : decode cX9_countOf 146 = .ok (.ireturn, 1) := by decide +kernel
theorem dX9_countOf_147 : decode cX9_countOf 147 = .ok (.aload_n 0, 1) := by decide +kernel
theorem dX9_countOf_148 : decode cX9_countOf 148 = .ok (.getfield 26, 3) := by decide +kernel
theorem dX9_countOf_151 : decode cX9_countOf 151 = .ok (.invokevirtual 269, 3) := by decide +kernel
theorem dX9_countOf_154 : decode cX9_countOf 154 = .ok (.ireturn, 1) := by decide +kernel
theorem dX9_countOf_155 : decode cX9_countOf 155 = .ok (.aload_n 0, 1) := by decide +kernel
theorem dX9_countOf_156 : decode cX9_countOf 156 = .ok (.getfield 26, 3) := by decide +kernel
theorem dX9_countOf_159 : decode cX9_countOf 159 = .ok (.getfield 229, 3) := by decide +kernel
theorem dX9_countOf_162 : decode cX9_countOf 162 = .ok (.ireturn, 1) := by decide +kernel
theorem dX9_countOf_163 : decode cX9_countOf 163 = .ok (.aload_n 0, 1) := by decide +kernel
theorem dX9_countOf_164 : decode cX9_countOf 164 = .ok (.getfield 10, 3) := by decide +kernel
theorem dX9_countOf_167 : decode cX9_countOf 167 = .ok (.getfield 88, 3) := by decide +kernel
theorem dX9_countOf_170 : decode cX9_countOf 170 = .ok (.ireturn, 1) := by decide +kernel
theorem dX9_countOf_171 : decode cX9_countOf 171 = .ok (.aload_n 0, 1) := by decide +kernel
theorem dX9_countOf_172 : decode cX9_countOf 172 = .ok (.getfield 78, 3) := by decide +kernel
theorem dX9_countOf_175 : decode cX9_countOf 175 = .ok (.ireturn, 1) := by decide +kernel
theorem dX9_countOf_176 : decode cX9_countOf 176 = .ok (.aload_n 0, 1) := by decide +kernel
theorem dX9_countOf_177 : decode cX9_countOf 177 = .ok (.getfield 82, 3) := by decide +kernel
theorem dX9_countOf_180 : decode cX9_countOf 180 = .ok (.ireturn, 1) := by decide +kernel
theorem dX9_countOf_181 : decode cX9_countOf 181 = .ok (.aload_n 0, 1) := by decide +kernel
theorem dX9_countOf_182 : decode cX9_countOf 182 = .ok (.getfield 85, 3) := by decide +kernel
theorem dX9_countOf_185 : decode cX9_countOf 185 = .ok (.ireturn, 1) := by decide +kernel
theorem dX9_digest_0 : decode cX9_digest 0 = .ok (.aload_n 0, 1) := by decide +kernel
theorem dX9_digest_1 : decode cX9_digest 1 = .ok (.getfield 38, 3) := by decide +kernel
theorem dX9_digest_4 : decode cX9_digest 4 = .ok (.aload_n 0, 1) := by decide +kernel
theorem dX9_digest_5 : decode cX9_digest 5 = .ok (.getfield 26, 3) := by decide +kernel
theorem dX9_digest_8 : decode cX9_digest 8 = .ok (.getfield 117, 3) := by decide +kernel
theorem dX9_digest_11 : decode cX9_digest 11 = .ok (.invokevirtual 120, 3) := by decide +kernel
theorem dX9_digest_14 : decode cX9_digest 14 = .ok (.istore_n 1, 1) := by decide +kernel
theorem dX9_digest_15 : decode cX9_digest 15 = .ok (.ldc2_w 272, 3) := by decide +kernel
theorem dX9_digest_18 : decode cX9_digest 18 = .ok (.lstore_n 2, 1) := by decide +kernel
theorem dX9_digest_19 : decode cX9_digest 19 = .ok (.iconst 0, 1) := by decide +kernel
theorem dX9_digest_20 : decode cX9_digest 20 = .ok (.istore 4, 2) := by decide +kernel
theorem dX9_digest_22 : decode cX9_digest 22 = .ok (.iload 4, 2) := by decide +kernel
theorem dX9_digest_24 : decode cX9_digest 24 = .ok (.aload_n 0, 1) := by decide +kernel
theorem dX9_digest_25 : decode cX9_digest 25 = .ok (.getfield 19, 3) := by decide +kernel
theorem dX9_digest_28 : decode cX9_digest 28 = .ok (.getfield 110, 3) := by decide +kernel
theorem dX9_digest_31 : decode cX9_digest 31 = .ok (.if_icmp .ge 41, 3) := by decide +kernel
theorem dX9_digest_34 : decode cX9_digest 34 = .ok (.iconst 0, 1) := by decide +kernel
theorem dX9_digest_35 : decode cX9_digest 35 = .ok (.istore 5, 2) := by decide +kernel
theorem dX9_digest_37 : decode cX9_digest 37 = .ok (.iload 5, 2) := by decide +kernel
theorem dX9_digest_39 : decode cX9_digest 39 = .ok (.iconst 3, 1) := by decide +kernel
theorem dX9_digest_40 : decode cX9_digest 40 = .ok (.if_icmp .gt 26, 3) := by decide +kernel
theorem dX9_digest_43 : decode cX9_digest 43 = .ok (.ldc2_w 274, 3) := by decide +kernel
theorem dX9_digest_46 : decode cX9_digest 46 = .ok (.lload_n 2, 1) := by decide +kernel
theorem dX9_digest_47 : decode cX9_digest 47 = .ok (.lmul, 1) := by decide +kernel
theorem dX9_digest_48 : decode cX9_digest 48 = .ok (.aload_n 0, 1) := by decide +kernel
theorem dX9_digest_49 : decode cX9_digest 49 = .ok (.iload 4, 2) := by decide +kernel
theorem dX9_digest_51 : decode cX9_digest 51 = .ok (.iload 5, 2) := by decide +kernel
theorem dX9_digest_53 : decode cX9_digest 53 = .ok (.iload_n 1, 1) := by decide +kernel
theorem dX9_digest_54 : decode cX9_digest 54 = .ok (.invokevirtual 124, 3) := by decide +kernel
theorem dX9_digest_57 : decode cX9_digest 57 = .ok (.i2l, 1) := by decide +kernel
theorem dX9_digest_58 : decode cX9_digest 58 = .ok (.ladd, 1) := by decide +kernel
theorem dX9_digest_59 : decode cX9_digest 59 = .ok (.lstore_n 2, 1) := by decide +kernel
theorem dX9_digest_60 : decode cX9_digest 60 = .ok (.iinc 5 1, 3) := by decide +kernel
theorem dX9_digest_63 : decode cX9_digest 63 = .ok (.goto (-26), 3) := by decide +kernel
theorem dX9_digest_66 : decode cX9_digest 66 = .ok (.iinc 4 1, 3) := by decide +kernel
theorem dX9_digest_69 : decode cX9_digest 69 = .ok (.goto (-47), 3) := by decide +kernel
theorem dX9_digest_72 : decode cX9_digest 72 = .ok (.iconst 0, 1) := by decide +kernel
theorem dX9_digest_73 : decode cX9_digest 73 = .ok (.istore 4, 2) := by decide +kernel
theorem dX9_digest_75 : decode cX9_digest 75 = .ok (.iload 4, 2) := by decide +kernel
theorem dX9_digest_77 : decode cX9_digest 77 = .ok (.aload_n 0, 1) := by decide +kernel
theorem dX9_digest_78 : decode cX9_digest 78 = .ok (.getfield 26, 3) := by decide +kernel
theorem dX9_digest_81 : decode cX9_digest 81 = .ok (.getfield 150, 3) := by decide +kernel
theorem dX9_digest_84 : decode cX9_digest 84 = .ok (.if_icmp .ge 17, 3) := by decide +kernel
theorem dX9_digest_87 : decode cX9_digest 87 = .ok (.aload_n 0, 1) := by decide +kernel
theorem dX9_digest_88 : decode cX9_digest 88 = .ok (.lload_n 2, 1) := by decide +kernel
theorem dX9_digest_89 : decode cX9_digest 89 = .ok (.iload 4, 2) := by decide +kernel
theorem dX9_digest_91 : decode cX9_digest 91 = .ok (.invokevirtual 276, 3) := by decide +kernel
theorem dX9_digest_94 : decode cX9_digest 94 = .ok (.lstore_n 2, 1) := by decide +kernel
theorem dX9_digest_95 : decode cX9_digest 95 = .ok (.iinc 4 1, 3) := by decide +kernel
theorem dX9_digest_98 : decode cX9_digest 98 = .ok (.goto (-23), 3) := by decide +kernel
theorem dX9_digest_101 : decode cX9_digest 101 = .ok (.aload_n 0, 1) := by decide +kernel
theorem dX9_digest_102 : decode cX9_digest 102 = .ok (.getfield 19, 3) := by decide +kernel
theorem dX9_digest_105 : decode cX9_digest 105 = .ok (.getfield 110, 3) := by decide +kernel
theorem dX9_digest_108 : decode cX9_digest 108 = .ok (.ifCond .le 29, 3) := by decide +kernel
theorem dX9_digest_111 : decode cX9_digest 111 = .ok (.ldc2_w 274, 3) := by decide +kernel
theorem dX9_digest_114 : decode cX9_digest 114 = .ok (.lload_n 2, 1) := by decide +kernel
theorem dX9_digest_115 : decode cX9_digest 115 = .ok (.lmul, 1) := by decide +kernel
theorem dX9_digest_116 : decode cX9_digest 116 = .ok (.iconst 0, 1) := by decide +kernel
theorem dX9_digest_117 : decode cX9_digest 117 = .ok (.iload_n 1, 1) := by decide +kernel
theorem dX9_digest_118 : decode cX9_digest 118 = .ok (.invokestatic 203, 3) := by decide +kernel
theorem dX9_digest_121 : decode cX9_digest 121 = .ok (.i2l, 1) := by decide +kernel
theorem dX9_digest_122 : decode cX9_digest 122 = .ok (.ladd, 1) := by decide +kernel
theorem dX9_digest_123 : decode cX9_digest 123 = .ok (.lstore_n 2, 1) := by decide +kernel
theorem dX9_digest_124 : decode cX9_digest 124 = .ok (.ldc2_w 274, 3) := by decide +kernel
theorem dX9_digest_127 : decode cX9_digest 127 = .ok (.lload_n 2, 1) := by decide +kernel
theorem dX9_digest_128 : decode cX9_digest 128 = .ok (.lmul, 1) := by decide +kernel
theorem dX9_digest_129 : decode cX9_digest 129 = .ok (.iconst 1, 1) := by decide +kernel
theorem dX9_digest_130 : decode cX9_digest 130 = .ok (.iload_n 1, 1) := by decide +kernel
theorem dX9_digest_131 : decode cX9_digest 131 = .ok (.invokestatic 203, 3) := by decide +kernel
theorem dX9_digest_134 : decode cX9_digest 134 = .ok (.i2l, 1) := by decide +kernel
theorem dX9_digest_135 : decode cX9_digest 135 = .ok (.ladd, 1) := by decide +kernel
theorem dX9_digest_136 : decode cX9_digest 136 = .ok (.lstore_n 2, 1) := by decide +kernel
theorem dX9_digest_137 : decode cX9_digest 137 = .ok (.iconst 0, 1) := by decide +kernel
theorem dX9_digest_138 : decode cX9_digest 138 = .ok (.istore 4, 2) := by decide +kernel
theorem dX9_digest_140 : decode cX9_digest 140 = .ok (.iload 4, 2) := by decide +kernel
theorem dX9_digest_142 : decode cX9_digest 142 = .ok (.aload_n 0, 1) := by decide +kernel
theorem dX9_digest_143 : decode cX9_digest 143 = .ok (.getfield 10, 3) := by decide +kernel
theorem dX9_digest_146 : decode cX9_digest 146 = .ok (.getfield 88, 3) := by decide +kernel
theorem dX9_digest_149 : decode cX9_digest 149 = .ok (.if_icmp .ge 27, 3) := by decide +kernel
theorem dX9_digest_152 : decode cX9_digest 152 = .ok (.ldc2_w 274, 3) := by decide +kernel
theorem dX9_digest_155 : decode cX9_digest 155 = .ok (.lload_n 2, 1) := by decide +kernel
theorem dX9_digest_156 : decode cX9_digest 156 = .ok (.lmul, 1) := by decide +kernel
theorem dX9_digest_157 : decode cX9_digest 157 = .ok (.aload_n 0, 1) := by decide +kernel
theorem dX9_digest_158 : decode cX9_digest 158 = .ok (.getfield 10, 3) := by decide +kernel
theorem dX9_digest_161 : decode cX9_digest 161 = .ok (.getfield 280, 3) := by decide +kernel
theorem dX9_digest_164 : decode cX9_digest 164 = .ok (.iload 4, 2) := by decide +kernel
theorem dX9_digest_166 : decode cX9_digest 166 = .ok (.iaload, 1) := by decide +kernel
theorem dX9_digest_167 : decode cX9_digest 167 = .ok (.i2l, 1) := by decide +kernel
theorem dX9_digest_168 : decode cX9_digest 168 = .ok (.ladd, 1) := by decide +kernel
theorem dX9_digest_169 : decode cX9_digest 169 = .ok (.lstore_n 2, 1) := by decide +kernel
theorem dX9_digest_170 : decode cX9_digest 170 = .ok (.iinc 4 1, 3) := by decide +kernel
theorem dX9_digest_173 : decode cX9_digest 173 = .ok (.goto (-33), 3) := by decide +kernel
theorem dX9_digest_176 : decode cX9_digest 176 = .ok (.iconst 0, 1) := by decide +kernel
theorem dX9_digest_177 : decode cX9_digest 177 = .ok (.istore 4, 2) := by decide +kernel
theorem dX9_digest_179 : decode cX9_digest 179 = .ok (.iload 4, 2) := by decide +kernel
theorem dX9_digest_181 : decode cX9_digest 181 = .ok (.bipush 12, 2) := by decide +kernel
theorem dX9_digest_183 : decode cX9_digest 183 = .ok (.if_icmp .gt 23, 3) := by decide +kernel
theorem dX9_digest_186 : decode cX9_digest 186 = .ok (.ldc2_w 274, 3) := by decide +kernel
theorem dX9_digest_189 : decode cX9_digest 189 = .ok (.lload_n 2, 1) := by decide +kernel
theorem dX9_digest_190 : decode cX9_digest 190 = .ok (.lmul, 1) := by decide +kernel
theorem dX9_digest_191 : decode cX9_digest 191 = .ok (.aload_n 0, 1) := by decide +kernel
theorem dX9_digest_192 : decode cX9_digest 192 = .ok (.iload 4, 2) := by decide +kernel
theorem dX9_digest_194 : decode cX9_digest 194 = .ok (.invokevirtual 258, 3) := by decide +kernel
theorem dX9_digest_197 : decode cX9_digest 197 = .ok (.i2l, 1) := by decide +kernel
theorem dX9_digest_198 : decode cX9_digest 198 = .ok (.ladd, 1) := by decide +kernel
theorem dX9_digest_199 : decode cX9_digest 199 = .ok (.lstore_n 2, 1) := by decide +kernel
theorem dX9_digest_200 : decode cX9_digest 200 = .ok (.iinc 4 1, 3) := by decide +kernel
theorem dX9_digest_203 : decode cX9_digest 203 = .ok (.goto (-24), 3) := by decide +kernel
theorem dX9_digest_206 : decode cX9_digest 206 = .ok (.lload_n 2, 1) := by decide +kernel
theorem dX9_digest_207 : decode cX9_digest 207 = .ok (.lreturn, 1) := by decide +kernel
theorem dX9_withPlayer_0 : decode cX9_withPlayer 0 = .ok (.lload_n 1, 1) := by decide +kernel
theorem dX9_withPlayer_1 : decode cX9_withPlayer 1 = .ok (.lstore 4, 2) := by decide +kernel
theorem dX9_withPlayer_3 : decode cX9_withPlayer 3 = .ok (.iconst 0, 1) := by decide +kernel
theorem dX9_withPlayer_4 : decode cX9_withPlayer 4 = .ok (.istore 6, 2) := by decide +kernel
theorem dX9_withPlayer_6 : decode cX9_withPlayer 6 = .ok (.iload 6, 2) := by decide +kernel
theorem dX9_withPlayer_8 : decode cX9_withPlayer 8 = .ok (.bipush 6, 2) := by decide +kernel
theorem dX9_withPlayer_10 : decode cX9_withPlayer 10 = .ok (.if_icmp .gt 26, 3) := by decide +kernel
theorem dX9_withPlayer_13 : decode cX9_withPlayer 13 = .ok (.ldc2_w 274, 3) := by decide +kernel
theorem dX9_withPlayer_16 : decode cX9_withPlayer 16 = .ok (.lload 4, 2) := by decide +kernel
theorem dX9_withPlayer_18 : decode cX9_withPlayer 18 = .ok (.lmul, 1) := by decide +kernel
theorem dX9_withPlayer_19 : decode cX9_withPlayer 19 = .ok (.aload_n 0, 1) := by decide +kernel
theorem dX9_withPlayer_20 : decode cX9_withPlayer 20 = .ok (.iload_n 3, 1) := by decide +kernel
theorem dX9_withPlayer_21 : decode cX9_withPlayer 21 = .ok (.iload 6, 2) := by decide +kernel
theorem dX9_withPlayer_23 : decode cX9_withPlayer 23 = .ok (.invokevirtual 157, 3) := by decide +kernel
theorem dX9_withPlayer_26 : decode cX9_withPlayer 26 = .ok (.i2l, 1) := by decide +kernel
theorem dX9_withPlayer_27 : decode cX9_withPlayer 27 = .ok (.ladd, 1) := by decide +kernel
theorem dX9_withPlayer_28 : decode cX9_withPlayer 28 = .ok (.lstore 4, 2) := by decide +kernel
theorem dX9_withPlayer_30 : decode cX9_withPlayer 30 = .ok (.iinc 6 1, 3) := by decide +kernel
theorem dX9_withPlayer_33 : decode cX9_withPlayer 33 = .ok (.goto (-27), 3) := by decide +kernel
theorem dX9_withPlayer_36 : decode cX9_withPlayer 36 = .ok (.aload_n 0, 1) := by decide +kernel
theorem dX9_withPlayer_37 : decode cX9_withPlayer 37 = .ok (.getfield 63, 3) := by decide +kernel
theorem dX9_withPlayer_40 : decode cX9_withPlayer 40 = .ok (.iload_n 3, 1) := by decide +kernel
theorem dX9_withPlayer_41 : decode cX9_withPlayer 41 = .ok (.invokevirtual 236, 3) := by decide +kernel
theorem dX9_withPlayer_44 : decode cX9_withPlayer 44 = .ok (.ldc2_w 274, 3) := by decide +kernel
theorem dX9_withPlayer_47 : decode cX9_withPlayer 47 = .ok (.lload 4, 2) := by decide +kernel
theorem dX9_withPlayer_49 : decode cX9_withPlayer 49 = .ok (.lmul, 1) := by decide +kernel
theorem dX9_withPlayer_50 : decode cX9_withPlayer 50 = .ok (.aload_n 0, 1) := by decide +kernel
theorem dX9_withPlayer_51 : decode cX9_withPlayer 51 = .ok (.getfield 63, 3) := by decide +kernel
theorem dX9_withPlayer_54 : decode cX9_withPlayer 54 = .ok (.getfield 239, 3) := by decide +kernel
theorem dX9_withPlayer_57 : decode cX9_withPlayer 57 = .ok (.i2l, 1) := by decide +kernel
theorem dX9_withPlayer_58 : decode cX9_withPlayer 58 = .ok (.ladd, 1) := by decide +kernel
theorem dX9_withPlayer_59 : decode cX9_withPlayer 59 = .ok (.lstore 4, 2) := by decide +kernel
theorem dX9_withPlayer_61 : decode cX9_withPlayer 61 = .ok (.ldc2_w 274, 3) := by decide +kernel
theorem dX9_withPlayer_64 : decode cX9_withPlayer 64 = .ok (.lload 4, 2) := by decide +kernel
theorem dX9_withPlayer_66 : decode cX9_withPlayer 66 = .ok (.lmul, 1) := by decide +kernel
theorem dX9_withPlayer_67 : decode cX9_withPlayer 67 = .ok (.aload_n 0, 1) := by decide +kernel
theorem dX9_withPlayer_68 : decode cX9_withPlayer 68 = .ok (.getfield 63, 3) := by decide +kernel
theorem dX9_withPlayer_71 : decode cX9_withPlayer 71 = .ok (.invokevirtual 242, 3) := by decide +kernel
theorem dX9_withPlayer_74 : decode cX9_withPlayer 74 = .ok (.i2l, 1) := by decide +kernel
theorem dX9_withPlayer_75 : decode cX9_withPlayer 75 = .ok (.ladd, 1) := by decide +kernel
theorem dX9_withPlayer_76 : decode cX9_withPlayer 76 = .ok (.lreturn, 1) := by decide +kernel
theorem dX9_isKind_0 : decode cX9_isKind 0 = .ok (.iload_n 0, 1) := by decide +kernel
theorem dX9_isKind_1 : decode cX9_isKind 1 = .ok (.ifCond .lt 12, 3) := by decide +kernel
theorem dX9_isKind_4 : decode cX9_isKind 4 = .ok (.iload_n 0, 1) := by decide +kernel
theorem dX9_isKind_5 : decode cX9_isKind 5 = .ok (.iconst 5, 1) := by decide +kernel
theorem dX9_isKind_6 : decode cX9_isKind 6 = .ok (.if_icmp .ge 7, 3) := by decide +kernel
theorem dX9_isKind_9 : decode cX9_isKind 9 = .ok (.iconst 1, 1) := by decide +kernel
theorem dX9_isKind_10 : decode cX9_isKind 10 = .ok (.goto 4, 3) := by decide +kernel
theorem dX9_isKind_13 : decode cX9_isKind 13 = .ok (.iconst 0, 1) := by decide +kernel
theorem dX9_isKind_14 : decode cX9_isKind 14 = .ok (.ireturn, 1) := by decide +kernel
theorem dX9_isTiredness_0 : decode cX9_isTiredness 0 = .ok (.iload_n 0, 1) := by decide +kernel
theorem dX9_isTiredness_1 : decode cX9_isTiredness 1 = .ok (.ifCond .lt 13, 3) := by decide +kernel
theorem dX9_isTiredness_4 : decode cX9_isTiredness 4 = .ok (.iload_n 0, 1) := by decide +kernel
theorem dX9_isTiredness_5 : decode cX9_isTiredness 5 = .ok (.bipush 9, 2) := by decide +kernel
theorem dX9_isTiredness_7 : decode cX9_isTiredness 7 = .ok (.if_icmp .gt 7, 3) := by decide +kernel
theorem dX9_isTiredness_10 : decode cX9_isTiredness 10 = .ok (.iconst 1, 1) := by decide +kernel
theorem dX9_isTiredness_11 : decode cX9_isTiredness 11 = .ok (.goto 4, 3) := by decide +kernel
theorem dX9_isTiredness_14 : decode cX9_isTiredness 14 = .ok (.iconst 0, 1) := by decide +kernel
theorem dX9_isTiredness_15 : decode cX9_isTiredness 15 = .ok (.ireturn, 1) := by decide +kernel
theorem dX9_isSuch_0 : decode cX9_isSuch 0 = .ok (.iload_n 1, 1) := by decide +kernel
theorem dX9_isSuch_1 : decode cX9_isSuch 1 = .ok (.ifCond .eq 18, 3) := by decide +kernel
theorem dX9_isSuch_4 : decode cX9_isSuch 4 = .ok (.iload_n 1, 1) := by decide +kernel
theorem dX9_isSuch_5 : decode cX9_isSuch 5 = .ok (.iload_n 0, 1) := by decide +kernel
theorem dX9_isSuch_6 : decode cX9_isSuch 6 = .ok (.if_icmp .eq 13, 3) := by decide +kernel
theorem dX9_isSuch_9 : decode cX9_isSuch 9 = .ok (.iload_n 1, 1) := by decide +kernel
theorem dX9_isSuch_10 : decode cX9_isSuch 10 = .ok (.iconst 1, 1) := by decide +kernel
theorem dX9_isSuch_11 : decode cX9_isSuch 11 = .ok (.if_icmp .ne 12, 3) := by decide +kernel
theorem dX9_isSuch_14 : decode cX9_isSuch 14 = .ok (.iload_n 0, 1) := by decide +kernel
theorem dX9_isSuch_15 : decode cX9_isSuch 15 = .ok (.iconst 4, 1) := by decide +kernel
theorem dX9_isSuch_16 : decode cX9_isSuch 16 = .ok (.if_icmp .ne 7, 3) := by decide +kernel
theorem dX9_isSuch_19 : decode cX9_isSuch 19 = .ok (.iconst 1, 1) := by decide +kernel
theorem dX9_isSuch_20 : decode cX9_isSuch 20 = .ok (.goto 4, 3) := by decide +kernel
theorem dX9_isSuch_23 : decode cX9_isSuch 23 = .ok (.iconst 0, 1) := by decide +kernel
theorem dX9_isSuch_24 : decode cX9_isSuch 24 = .ok (.ireturn, 1) := by decide +kernel
theorem dX9_isOfRow_0 : decode cX9_isOfRow 0 = .ok (.iload_n 0, 1) := by decide +kernel
theorem dX9_isOfRow_1 : decode cX9_isOfRow 1 = .ok (.ifCond .eq 15, 3) := by decide +kernel
theorem dX9_isOfRow_4 : decode cX9_isOfRow 4 = .ok (.iload_n 0, 1) := by decide +kernel
theorem dX9_isOfRow_5 : decode cX9_isOfRow 5 = .ok (.bipush 10, 2) := by decide +kernel
theorem dX9_isOfRow_7 : decode cX9_isOfRow 7 = .ok (.if_icmp .lt 13, 3) := by decide +kernel
theorem dX9_isOfRow_10 : decode cX9_isOfRow 10 = .ok (.iload_n 0, 1) := by decide +kernel
theorem dX9_isOfRow_11 : decode cX9_isOfRow 11 = .ok (.bipush 16, 2) := by decide +kernel
theorem dX9_isOfRow_13 : decode cX9_isOfRow 13 = .ok (.if_icmp .ge 7, 3) := by decide +kernel
theorem dX9_isOfRow_16 : decode cX9_isOfRow 16 = .ok (.iconst 1, 1) := by decide +kernel
theorem dX9_isOfRow_17 : decode cX9_isOfRow 17 = .ok (.goto 4, 3) := by decide +kernel
theorem dX9_isOfRow_20 : decode cX9_isOfRow 20 = .ok (.iconst 0, 1) := by decide +kernel
theorem dX9_isOfRow_21 : decode cX9_isOfRow 21 = .ok (.ireturn, 1) := by decide +kernel
theorem dX9_refreshed_0 : decode cX9_refreshed 0 = .ok (.iconst 0, 1) := by decide +kernel
theorem dX9_refreshed_1 : decode cX9_refreshed 1 = .ok (.iload_n 0, 1) := by decide +kernel
theorem dX9_refreshed_2 : decode cX9_refreshed 2 = .ok (.iload_n 1, 1) := by decide +kernel
theorem dX9_refreshed_3 : decode cX9_refreshed 3 = .ok (.invokestatic 135, 3) := by decide +kernel
theorem dX9_refreshed_6 : decode cX9_refreshed 6 = .ok (.iconst 4, 1) := by decide +kernel
theorem dX9_refreshed_7 : decode cX9_refreshed 7 = .ok (.isub, 1) := by decide +kernel
theorem dX9_refreshed_8 : decode cX9_refreshed 8 = .ok (.invokestatic 283, 3) := by decide +kernel
theorem dX9_refreshed_11 : decode cX9_refreshed 11 = .ok (.istore_n 2, 1) := by decide +kernel
theorem dX9_refreshed_12 : decode cX9_refreshed 12 = .ok (.iload_n 0, 1) := by decide +kernel
theorem dX9_refreshed_13 : decode cX9_refreshed 13 = .ok (.iload_n 1, 1) := by decide +kernel
theorem dX9_refreshed_14 : decode cX9_refreshed 14 = .ok (.iload_n 2, 1) := by decide +kernel
theorem dX9_refreshed_15 : decode cX9_refreshed 15 = .ok (.invokestatic 191, 3) := by decide +kernel
theorem dX9_refreshed_18 : decode cX9_refreshed 18 = .ok (.ireturn, 1) := by decide +kernel
theorem dX10_init_0 : decode cX10_init 0 = .ok (.aload_n 0, 1) := by decide +kernel
theorem dX10_init_1 : decode cX10_init 1 = .ok (.invokespecial 1, 3) := by decide +kernel
theorem dX10_init_4 : decode cX10_init 4 = .ok (.aload_n 0, 1) := by decide +kernel
theorem dX10_init_5 : decode cX10_init 5 = .ok (.bipush 22, 2) := by decide +kernel
theorem dX10_init_7 : decode cX10_init 7 = .ok (.newarray .int, 2) := by decide +kernel
theorem dX10_init_9 : decode cX10_init 9 = .ok (.putfield 7, 3) := by decide +kernel
theorem dX10_init_12 : decode cX10_init 12 = .ok (.aload_n 0, 1) := by decide +kernel
theorem dX10_init_13 : decode cX10_init 13 = .ok (.bipush 12, 2) := by decide +kernel
theorem dX10_init_15 : decode cX10_init 15 = .ok (.newarray .int, 2) := by decide +kernel
theorem dX10_init_17 : decode cX10_init 17 = .ok (.putfield 13, 3) := by decide +kernel
theorem dX10_init_20 : decode cX10_init 20 = .ok (.aload_n 0, 1) := by decide +kernel
theorem dX10_init_21 : decode cX10_init 21 = .ok (.bipush 12, 2) := by decide +kernel
theorem dX10_init_23 : decode cX10_init 23 = .ok (.newarray .int, 2) := by decide +kernel
theorem dX10_init_25 : decode cX10_init 25 = .ok (.putfield 16, 3) := by decide +kernel
theorem dX10_init_28 : decode cX10_init 28 = .ok (.aload_n 0, 1) := by decide +kernel
theorem dX10_init_29 : decode cX10_init 29 = .ok (.bipush 16, 2) := by decide +kernel
theorem dX10_init_31 : decode cX10_init 31 = .ok (.newarray .int, 2) := by decide +kernel
theorem dX10_init_33 : decode cX10_init 33 = .ok (.putfield 19, 3) := by decide +kernel
theorem dX10_init_36 : decode cX10_init 36 = .ok (.aload_n 0, 1) := by decide +kernel
theorem dX10_init_37 : decode cX10_init 37 = .ok (.bipush 12, 2) := by decide +kernel
theorem dX10_init_39 : decode cX10_init 39 = .ok (.newarray .int, 2) := by decide +kernel
theorem dX10_init_41 : decode cX10_init 41 = .ok (.putfield 22, 3) := by decide +kernel
theorem dX10_init_44 : decode cX10_init 44 = .ok (.aload_n 0, 1) := by decide +kernel
theorem dX10_init_45 : decode cX10_init 45 = .ok (.iconst 4, 1) := by decide +kernel
theorem dX10_init_46 : decode cX10_init 46 = .ok (.newarray .int, 2) := by decide +kernel
theorem dX10_init_48 : decode cX10_init 48 = .ok (.putfield 25, 3) := by decide +kernel
theorem dX10_init_51 : decode cX10_init 51 = .ok (.aload_n 0, 1) := by decide +kernel
theorem dX10_init_52 : decode cX10_init 52 = .ok (.iconst 4, 1) := by decide +kernel
theorem dX10_init_53 : decode cX10_init 53 = .ok (.newarray .int, 2) := by decide +kernel
theorem dX10_init_55 : decode cX10_init 55 = .ok (.putfield 28, 3) := by decide +kernel
theorem dX10_init_58 : decode cX10_init 58 = .ok (.aload_n 0, 1) := by decide +kernel
theorem dX10_init_59 : decode cX10_init 59 = .ok (.iconst 4, 1) := by decide +kernel
theorem dX10_init_60 : decode cX10_init 60 = .ok (.newarray .int, 2) := by decide +kernel
theorem dX10_init_62 : decode cX10_init 62 = .ok (.putfield 31, 3) := by decide +kernel
theorem dX10_init_65 : decode cX10_init 65 = .ok (.aload_n 0, 1) := by decide +kernel
theorem dX10_init_66 : decode cX10_init 66 = .ok (.bipush 6, 2) := by decide +kernel
theorem dX10_init_68 : decode cX10_init 68 = .ok (.newarray .int, 2) := by decide +kernel
theorem dX10_init_70 : decode cX10_init 70 = .ok (.putfield 34, 3) := by decide +kernel
theorem dX10_init_73 : decode cX10_init 73 = .ok (.aload_n 0, 1) := by decide +kernel
theorem dX10_init_74 : decode cX10_init 74 = .ok (.bipush 6, 2) := by decide +kernel
theorem dX10_init_76 : decode cX10_init 76 = .ok (.newarray .int, 2) := by decide +kernel
theorem dX10_init_78 : decode cX10_init 78 = .ok (.putfield 37, 3) := by decide +kernel
theorem dX10_init_81 : decode cX10_init 81 = .ok (.aload_n 0, 1) := by decide +kernel
theorem dX10_init_82 : decode cX10_init 82 = .ok (.iconst 5, 1) := by decide +kernel
theorem dX10_init_83 : decode cX10_init 83 = .ok (.newarray .int, 2) := by decide +kernel
theorem dX10_init_85 : decode cX10_init 85 = .ok (.putfield 40, 3) := by decide +kernel
theorem dX10_init_88 : decode cX10_init 88 = .ok (.aload_n 0, 1) := by decide +kernel
theorem dX10_init_89 : decode cX10_init 89 = .ok (.bipush 16, 2) := by decide +kernel
theorem dX10_init_91 : decode cX10_init 91 = .ok (.newarray .int, 2) := by decide +kernel
theorem dX10_init_93 : decode cX10_init 93 = .ok (.putfield 43, 3) := by decide +kernel
theorem dX10_init_96 : decode cX10_init 96 = .ok (.aload_n 0, 1) := by decide +kernel
theorem dX10_init_97 : decode cX10_init 97 = .ok (.bipush 12, 2) := by decide +kernel
theorem dX10_init_99 : decode cX10_init 99 = .ok (.newarray .int, 2) := by decide +kernel
theorem dX10_init_101 : decode cX10_init 101 = .ok (.putfield 46, 3) := by decide +kernel
theorem dX10_init_104 : decode cX10_init 104 = .ok (.aload_n 0, 1) := by decide +kernel
theorem dX10_init_105 : decode cX10_init 105 = .ok (.iconst (-1), 1) := by decide +kernel
theorem dX10_init_106 : decode cX10_init 106 = .ok (.putfield 49, 3) := by decide +kernel
theorem dX10_init_109 : decode cX10_init 109 = .ok (.return_, 1) := by decide +kernel
theorem dX10_in_0 : decode cX10_in 0 = .ok (.lload_n 0, 1) := by decide +kernel
theorem dX10_in_1 : decode cX10_in 1 = .ok (.lload_n 2, 1) := by decide +kernel
theorem dX10_in_2 : decode cX10_in 2 = .ok (.lcmp, 1) := by decide +kernel
theorem dX10_in_3 : decode cX10_in 3 = .ok (.ifCond .lt 14, 3) := by decide +kernel
theorem dX10_in_6 : decode cX10_in 6 = .ok (.lload_n 0, 1) := by decide +kernel
theorem dX10_in_7 : decode cX10_in 7 = .ok (.lload 4, 2) := by decide +kernel
theorem dX10_in_9 : decode cX10_in 9 = .ok (.lcmp, 1) := by decide +kernel
theorem dX10_in_10 : decode cX10_in 10 = .ok (.ifCond .gt 7, 3) := by decide +kernel
theorem dX10_in_13 : decode cX10_in 13 = .ok (.iconst 1, 1) := by decide +kernel
theorem dX10_in_14 : decode cX10_in 14 = .ok (.goto 4, 3) := by decide +kernel
theorem dX10_in_17 : decode cX10_in 17 = .ok (.iconst 0, 1) := by decide +kernel
theorem dX10_in_18 : decode cX10_in 18 = .ok (.ireturn, 1) := by decide +kernel
theorem dX10_letter_0 : decode cX10_letter 0 = .ok (.iload_n 1, 1) := by decide +kernel
theorem dX10_letter_1 : decode cX10_letter 1 = .ok (.i2l, 1) := by decide +kernel
theorem dX10_letter_2 : decode cX10_letter 2 = .ok (.lconst 1, 1) := by decide +kernel
theorem dX10_letter_3 : decode cX10_letter 3 = .ok (.ldc2_w 53, 3) := by decide +kernel
theorem dX10_letter_6 : decode cX10_letter 6 = .ok (.invokestatic 55, 3) := by decide +kernel
theorem dX10_letter_9 : decode cX10_letter 9 = .ok (.ifCond .ne 6, 3) := by decide +kernel
theorem dX10_letter_12 : decode cX10_letter 12 = .ok (.bipush (-102), 2) := by decide +kernel
theorem dX10_letter_14 : decode cX10_letter 14 = .ok (.ireturn, 1) := by decide +kernel
theorem dX10_letter_15 : decode cX10_letter 15 = .ok (.aload_n 0, 1) := by decide +kernel
theorem dX10_letter_16 : decode cX10_letter 16 = .ok (.getfield 59, 3) := by decide +kernel
theorem dX10_letter_19 : decode cX10_letter 19 = .ok (.bipush 22, 2) := by decide +kernel
theorem dX10_letter_21 : decode cX10_letter 21 = .ok (.if_icmp .ne 6, 3) := by decide +kernel
theorem dX10_letter_24 : decode cX10_letter 24 = .ok (.bipush (-104), 2) := by decide +kernel
theorem dX10_letter_26 : decode cX10_letter 26 = .ok (.ireturn, 1) := by decide +kernel
theorem dX10_letter_27 : decode cX10_letter 27 = .ok (.aload_n 0, 1) := by decide +kernel
theorem dX10_letter_28 : decode cX10_letter 28 = .ok (.getfield 7, 3) := by decide +kernel
theorem dX10_letter_31 : decode cX10_letter 31 = .ok (.aload_n 0, 1) := by decide +kernel
theorem dX10_letter_32 : decode cX10_letter 32 = .ok (.getfield 59, 3) := by decide +kernel
theorem dX10_letter_35 : decode cX10_letter 35 = .ok (.iload_n 1, 1) := by decide +kernel
theorem dX10_letter_36 : decode cX10_letter 36 = .ok (.iastore, 1) := by decide +kernel
theorem dX10_letter_37 : decode cX10_letter 37 = .ok (.aload_n 0, 1) := by decide +kernel
theorem dX10_letter_38 : decode cX10_letter 38 = .ok (.dup, 1) := by decide +kernel
theorem dX10_letter_39 : decode cX10_letter 39 = .ok (.getfield 59, 3) := by decide +kernel
theorem dX10_letter_42 : decode cX10_letter 42 = .ok (.iconst 1, 1) := by decide +kernel
theorem dX10_letter_43 : decode cX10_letter 43 = .ok (.iadd, 1) := by decide +kernel
theorem dX10_letter_44 : decode cX10_letter 44 = .ok (.putfield 59, 3) := by decide +kernel
theorem dX10_letter_47 : decode cX10_letter 47 = .ok (.aload_n 0, 1) := by decide +kernel
theorem dX10_letter_48 : decode cX10_letter 48 = .ok (.getfield 59, 3) := by decide +kernel
theorem dX10_letter_51 : decode cX10_letter 51 = .ok (.ireturn, 1) := by decide +kernel
theorem dX10_blank_0 : decode cX10_blank 0 = .ok (.aload_n 0, 1) := by decide +kernel
theorem dX10_blank_1 : decode cX10_blank 1 = .ok (.getfield 59, 3) := by decide +kernel
theorem dX10_blank_4 : decode cX10_blank 4 = .ok (.istore_n 1, 1) := by decide +kernel
theorem dX10_blank_5 : decode cX10_blank 5 = .ok (.aload_n 0, 1) := by decide +kernel
theorem dX10_blank_6 : decode cX10_blank 6 = .ok (.iconst 0, 1) := by decide +kernel
theorem dX10_blank_7 : decode cX10_blank 7 = .ok (.putfield 59, 3) := by decide +kernel
theorem dX10_blank_10 : decode cX10_blank 10 = .ok (.iload_n 1, 1) := by decide +kernel
theorem dX10_blank_11 : decode cX10_blank 11 = .ok (.ireturn, 1) := by decide +kernel
theorem dX10_sortBy_0 : decode cX10_sortBy 0 = .ok (.iload_n 0, 1) := by decide +kernel
theorem dX10_sortBy_1 : decode cX10_sortBy 1 = .ok (.bipush 115, 2) := by decide +kernel
theorem dX10_sortBy_3 : decode cX10_sortBy 3 = .ok (.if_icmp .ne 7, 3) := by decide +kernel
theorem dX10_sortBy_6 : decode cX10_sortBy 6 = .ok (.iconst 0, 1) := by decide +kernel
theorem dX10_sortBy_7 : decode cX10_sortBy 7 = .ok (.goto 34, 3) := by decide +kernel
theorem dX10_sortBy_10 : decode cX10_sortBy 10 = .ok (.iload_n 0, 1) := by decide +kernel
theorem dX10_sortBy_11 : decode cX10_sortBy 11 = .ok (.bipush 108, 2) := by decide +kernel
theorem dX10_sortBy_13 : decode cX10_sortBy 13 = .ok (.if_icmp .ne 7, 3) := by decide +kernel
theorem dX10_sortBy_16 : decode cX10_sortBy 16 = .ok (.iconst 1, 1) := by decide +kernel
theorem dX10_sortBy_17 : decode cX10_sortBy 17 = .ok (.goto 24, 3) := by decide +kernel
theorem dX10_sortBy_20 : decode cX10_sortBy 20 = .ok (.iload_n 0, 1) := by decide +kernel
theorem dX10_sortBy_21 : decode cX10_sortBy 21 = .ok (.bipush 97, 2) := by decide +kernel
theorem dX10_sortBy_23 : decode cX10_sortBy 23 = .ok (.if_icmp .ne 7, 3) := by decide +kernel
theorem dX10_sortBy_26 : decode cX10_sortBy 26 = .ok (.iconst 2, 1) := by decide +kernel
theorem dX10_sortBy_27 : decode cX10_sortBy 27 = .ok (.goto 14, 3) := by decide +kernel
theorem dX10_sortBy_30 : decode cX10_sortBy 30 = .ok (.iload_n 0, 1) := by decide +kernel
theorem dX10_sortBy_31 : decode cX10_sortBy 31 = .ok (.bipush 114, 2) := by decide +kernel
theorem dX10_sortBy_33 : decode cX10_sortBy 33 = .ok (.if_icmp .ne 7, 3) := by decide +kernel
theorem dX10_sortBy_36 : decode cX10_sortBy 36 = .ok (.iconst 3, 1) := by decide +kernel
theorem dX10_sortBy_37 : decode cX10_sortBy 37 = .ok (.goto 4, 3) := by decide +kernel
theorem dX10_sortBy_40 : decode cX10_sortBy 40 = .ok (.iconst (-1), 1) := by decide +kernel
theorem dX10_sortBy_41 : decode cX10_sortBy 41 = .ok (.ireturn, 1) := by decide +kernel
theorem dX10_go_0 : decode cX10_go 0 = .ok (.iload_n 1, 1) := by decide +kernel
theorem dX10_go_1 : decode cX10_go 1 = .ok (.bipush 48, 2) := by decide +kernel
theorem dX10_go_3 : decode cX10_go 3 = .ok (.isub, 1) := by decide +kernel
theorem dX10_go_4 : decode cX10_go 4 = .ok (.istore_n 2, 1) := by decide +kernel
theorem dX10_go_5 : decode cX10_go 5 = .ok (.aload_n 0, 1) := by decide +kernel
theorem dX10_go_6 : decode cX10_go 6 = .ok (.getfield 62, 3) := by decide +kernel
theorem dX10_go_9 : decode cX10_go 9 = .ok (.istore_n 3, 1) := by decide +kernel
theorem dX10_go_10 : decode cX10_go 10 = .ok (.aload_n 0, 1) := by decide +kernel
theorem dX10_go_11 : decode cX10_go 11 = .ok (.dup, 1) := by decide +kernel
theorem dX10_go_12 : decode cX10_go 12 = .ok (.getfield 62, 3) := by decide +kernel
theorem dX10_go_15 : decode cX10_go 15 = .ok (.iconst 1, 1) := by decide +kernel
theorem dX10_go_16 : decode cX10_go 16 = .ok (.iadd, 1) := by decide +kernel
theorem dX10_go_17 : decode cX10_go 17 = .ok (.putfield 62, 3) := by decide +kernel
theorem dX10_go_20 : decode cX10_go 20 = .ok (.iload_n 3, 1) := by decide +kernel
theorem dX10_go_21 : decode cX10_go 21 = .ok (.ifCond .ne 32, 3) := by decide +kernel
theorem dX10_go_24 : decode cX10_go 24 = .ok (.aload_n 0, 1) := by decide +kernel
theorem dX10_go_25 : decode cX10_go 25 = .ok (.getfield 13, 3) := by decide +kernel
theorem dX10_go_28 : decode cX10_go 28 = .ok (.iconst 2, 1) := by decide +kernel
theorem dX10_go_29 : decode cX10_go 29 = .ok (.aload_n 0, 1) := by decide +kernel
theorem dX10_go_30 : decode cX10_go 30 = .ok (.getfield 65, 3) := by decide +kernel
theorem dX10_go_33 : decode cX10_go 33 = .ok (.imul, 1) := by decide +kernel
theorem dX10_go_34 : decode cX10_go 34 = .ok (.iload_n 1, 1) := by decide +kernel
theorem dX10_go_35 : decode cX10_go 35 = .ok (.invokestatic 68, 3) := by decide +kernel
theorem dX10_go_38 : decode cX10_go 38 = .ok (.iastore, 1) := by decide +kernel
theorem dX10_go_39 : decode cX10_go 39 = .ok (.iload_n 1, 1) := by decide +kernel
theorem dX10_go_40 : decode cX10_go 40 = .ok (.invokestatic 68, 3) := by decide +kernel
theorem dX10_go_43 : decode cX10_go 43 = .ok (.iconst (-1), 1) := by decide +kernel
theorem dX10_go_44 : decode cX10_go 44 = .ok (.if_icmp .eq 7, 3) := by decide +kernel
theorem dX10_go_47 : decode cX10_go 47 = .ok (.iconst 1, 1) := by decide +kernel
theorem dX10_go_48 : decode cX10_go 48 = .ok (.goto 4, 3) := by decide +kernel
theorem dX10_go_51 : decode cX10_go 51 = .ok (.iconst 0, 1) := by decide +kernel
theorem dX10_go_52 : decode cX10_go 52 = .ok (.ireturn, 1) := by decide +kernel
theorem dX10_go_53 : decode cX10_go 53 = .ok (.iload_n 3, 1) := by decide +kernel
theorem dX10_go_54 : decode cX10_go 54 = .ok (.iconst 1, 1) := by decide +kernel
theorem dX10_go_55 : decode cX10_go 55 = .ok (.if_icmp .ne 37, 3) := by decide +kernel
theorem dX10_go_58 : decode cX10_go 58 = .ok (.aload_n 0, 1) := by decide +kernel
theorem dX10_go_59 : decode cX10_go 59 = .ok (.getfield 13, 3) := by decide +kernel
theorem dX10_go_62 : decode cX10_go 62 = .ok (.iconst 2, 1) := by decide +kernel
theorem dX10_go_63 : decode cX10_go 63 = .ok (.aload_n 0, 1) := by decide +kernel
theorem dX10_go_64 : decode cX10_go 64 = .ok (.getfield 65, 3) := by decide +kernel
theorem dX10_go_67 : decode cX10_go 67 = .ok (.imul, 1) := by decide +kernel
theorem dX10_go_68 : decode cX10_go 68 = .ok (.iconst 1, 1) := by decide +kernel
theorem dX10_go_69 : decode cX10_go 69 = .ok (.iadd, 1) := by decide +kernel
theorem dX10_go_70 : decode cX10_go 70 = .ok (.iload_n 2, 1) := by decide +kernel
theorem dX10_go_71 : decode cX10_go 71 = .ok (.iastore, 1) := by decide +kernel
theorem dX10_go_72 : decode cX10_go 72 = .ok (.aload_n 0, 1) := by decide +kernel
theorem dX10_go_73 : decode cX10_go 73 = .ok (.dup, 1) := by decide +kernel
theorem dX10_go_74 : decode cX10_go 74 = .ok (.getfield 65, 3) := by decide +kernel
theorem dX10_go_77 : decode cX10_go 77 = .ok (.iconst 1, 1) := by decide +kernel
theorem dX10_go_78 : decode cX10_go 78 = .ok (.iadd, 1) := by decide +kernel
theorem dX10_go_79 : decode cX10_go 79 = .ok (.putfield 65, 3) := by decide +kernel
theorem dX10_go_82 : decode cX10_go 82 = .ok (.iload_n 2, 1) := by decide +kernel
theorem dX10_go_83 : decode cX10_go 83 = .ok (.i2l, 1) := by decide +kernel
theorem dX10_go_84 : decode cX10_go 84 = .ok (.lconst 1, 1) := by decide +kernel
theorem dX10_go_85 : decode cX10_go 85 = .ok (.ldc2_w 72, 3) := by decide +kernel
theorem dX10_go_88 : decode cX10_go 88 = .ok (.invokestatic 55, 3) := by decide +kernel
theorem dX10_go_91 : decode cX10_go 91 = .ok (.ireturn, 1) := by decide +kernel
theorem dX10_go_92 : decode cX10_go 92 = .ok (.iload_n 3, 1) := by decide +kernel
theorem dX10_go_93 : decode cX10_go 93 = .ok (.iconst 2, 1) := by decide +kernel
theorem dX10_go_94 : decode cX10_go 94 = .ok (.if_icmp .ne 53, 3) := by decide +kernel
theorem dX10_go_97 : decode cX10_go 97 = .ok (.aload_n 0, 1) := by decide +kernel
theorem dX10_go_98 : decode cX10_go 98 = .ok (.iload_n 1, 1) := by decide +kernel
theorem dX10_go_99 : decode cX10_go 99 = .ok (.bipush 44, 2) := by decide +kernel
theorem dX10_go_101 : decode cX10_go 101 = .ok (.if_icmp .ne 7, 3) := by decide +kernel
theorem dX10_go_104 : decode cX10_go 104 = .ok (.iconst 0, 1) := by decide +kernel
theorem dX10_go_105 : decode cX10_go 105 = .ok (.goto 4, 3) := by decide +kernel
theorem dX10_go_108 : decode cX10_go 108 = .ok (.iconst 3, 1) := by decide +kernel
theorem dX10_go_109 : decode cX10_go 109 = .ok (.putfield 62, 3) := by decide +kernel
theorem dX10_go_112 : decode cX10_go 112 = .ok (.iload_n 1, 1) := by decide +kernel
theorem dX10_go_113 : decode cX10_go 113 = .ok (.bipush 44, 2) := by decide +kernel
theorem dX10_go_115 : decode cX10_go 115 = .ok (.if_icmp .ne 20, 3) := by decide +kernel
theorem dX10_go_118 : decode cX10_go 118 = .ok (.aload_n 0, 1) := by decide +kernel
theorem dX10_go_119 : decode cX10_go 119 = .ok (.getfield 65, 3) := by decide +kernel
theorem dX10_go_122 : decode cX10_go 122 = .ok (.bipush 6, 2) := by decide +kernel
theorem dX10_go_124 : decode cX10_go 124 = .ok (.if_icmp .ge 7, 3) := by decide +kernel
theorem dX10_go_127 : decode cX10_go 127 = .ok (.iconst 1, 1) := by decide +kernel
theorem dX10_go_128 : decode cX10_go 128 = .ok (.goto 18, 3) := by decide +kernel
theorem dX10_go_131 : decode cX10_go 131 = .ok (.iconst 0, 1) := by decide +kernel
theorem dX10_go_132 : decode cX10_go 132 = .ok (.goto 14, 3) := by decide +kernel
theorem dX10_go_135 : decode cX10_go 135 = .ok (.iload_n 1, 1) := by decide +kernel
theorem dX10_go_136 : decode cX10_go 136 = .ok (.bipush 59, 2) := by decide +kernel
theorem dX10_go_138 : decode cX10_go 138 = .ok (.if_icmp .ne 7, 3) := by decide +kernel
theorem dX10_go_141 : decode cX10_go 141 = .ok (.iconst 1, 1) := by decide +kernel
theorem dX10_go_142 : decode cX10_go 142 = .ok (.goto 4, 3) := by decide +kernel
theorem dX10_go_145 : decode cX10_go 145 = .ok (.iconst 0, 1) := by decide +kernel
theorem dX10_go_146 : decode cX10_go 146 = .ok (.ireturn, 1) := by decide +kernel
theorem dX10_go_147 : decode cX10_go 147 = .ok (.aload_n 0, 1) := by decide +kernel
theorem dX10_go_148 : decode cX10_go 148 = .ok (.iload_n 2, 1) := by decide +kernel
theorem dX10_go_149 : decode cX10_go 149 = .ok (.putfield 74, 3) := by decide +kernel
theorem dX10_go_152 : decode cX10_go 152 = .ok (.iload_n 3, 1) := by decide +kernel
theorem dX10_go_153 : decode cX10_go 153 = .ok (.iconst 3, 1) := by decide +kernel
theorem dX10_go_154 : decode cX10_go 154 = .ok (.if_icmp .ne 19, 3) := by decide +kernel
theorem dX10_go_157 : decode cX10_go 157 = .ok (.iload_n 2, 1) := by decide +kernel
theorem dX10_go_158 : decode cX10_go 158 = .ok (.i2l, 1) := by decide +kernel
theorem dX10_go_159 : decode cX10_go 159 = .ok (.lconst 1, 1) := by decide +kernel
theorem dX10_go_160 : decode cX10_go 160 = .ok (.ldc2_w 77, 3) := by decide +kernel
theorem dX10_go_163 : decode cX10_go 163 = .ok (.invokestatic 55, 3) := by decide +kernel
theorem dX10_go_166 : decode cX10_go 166 = .ok (.ifCond .eq 7, 3) := by decide +kernel
theorem dX10_go_169 : decode cX10_go 169 = .ok (.iconst 1, 1) := by decide +kernel
theorem dX10_go_170 : decode cX10_go 170 = .ok (.goto 4, 3) := by decide +kernel
theorem dX10_go_173 : decode cX10_go 173 = .ok (.iconst 0, 1) := by decide +kernel
theorem dX10_go_174 : decode cX10_go 174 = .ok (.ireturn, 1) := by decide +kernel
theorem dX10_faultOf_0 : decode cX10_faultOf 0 = .ok (.aload_n 0, 1) := by decide +kernel
theorem dX10_faultOf_1 : decode cX10_faultOf 1 = .ok (.iconst 0, 1) := by decide +kernel
theorem dX10_faultOf_2 : decode cX10_faultOf 2 = .ok (.putfield 65, 3) := by decide +kernel
theorem dX10_faultOf_5 : decode cX10_faultOf 5 = .ok (.aload_n 0, 1) := by decide +kernel
theorem dX10_faultOf_6 : decode cX10_faultOf 6 = .ok (.iconst 0, 1) := by decide +kernel
theorem dX10_faultOf_7 : decode cX10_faultOf 7 = .ok (.putfield 62, 3) := by decide +kernel
theorem dX10_faultOf_10 : decode cX10_faultOf 10 = .ok (.iconst 0, 1) := by decide +kernel
theorem dX10_faultOf_11 : decode cX10_faultOf 11 = .ok (.istore_n 1, 1) := by decide +kernel
theorem dX10_faultOf_12 : decode cX10_faultOf 12 = .ok (.iload_n 1, 1) := by decide +kernel
theorem dX10_faultOf_13 : decode cX10_faultOf 13 = .ok (.aload_n 0, 1) := by decide +kernel
theorem dX10_faultOf_14 : decode cX10_faultOf 14 = .ok (.getfield 59, 3) := by decide +kernel
theorem dX10_faultOf_17 : decode cX10_faultOf 17 = .ok (.if_icmp .ge 22, 3) := by decide +kernel
theorem dX10_faultOf_20 : decode cX10_faultOf 20 = .ok (.aload_n 0, 1) := by decide +kernel
theorem dX10_faultOf_21 : decode cX10_faultOf 21 = .ok (.aload_n 0, 1) := by decide +kernel
theorem dX10_faultOf_22 : decode cX10_faultOf 22 = .ok (.getfield 7, 3) := by decide +kernel
theorem dX10_faultOf_25 : decode cX10_faultOf 25 = .ok (.iload_n 1, 1) := by decide +kernel
theorem dX10_faultOf_26 : decode cX10_faultOf 26 = .ok (.iaload, 1) := by decide +kernel
theorem dX10_faultOf_27 : decode cX10_faultOf 27 = .ok (.invokevirtual 79, 3) := by decide +kernel
theorem dX10_faultOf_30 : decode cX10_faultOf 30 = .ok (.ifCond .eq 9, 3) := by decide +kernel
theorem dX10_faultOf_33 : decode cX10_faultOf 33 = .ok (.iinc 1 1, 3) := by decide +kernel
theorem dX10_faultOf_36 : decode cX10_faultOf 36 = .ok (.goto (-24), 3) := by decide +kernel
theorem dX10_faultOf_39 : decode cX10_faultOf 39 = .ok (.iload_n 1, 1) := by decide +kernel
theorem dX10_faultOf_40 : decode cX10_faultOf 40 = .ok (.ireturn, 1) := by decide +kernel
theorem dX10_fault_0 : decode cX10_fault 0 = .ok (.aload_n 0, 1) := by decide +kernel
theorem dX10_fault_1 : decode cX10_fault 1 = .ok (.invokevirtual 83, 3) := by decide +kernel
theorem dX10_fault_4 : decode cX10_fault 4 = .ok (.ireturn, 1) := by decide +kernel
theorem dX10_copy_0 : decode cX10_copy 0 = .ok (.iconst 0, 1) := by decide +kernel
theorem dX10_copy_1 : decode cX10_copy 1 = .ok (.istore_n 2, 1) := by decide +kernel
theorem dX10_copy_2 : decode cX10_copy 2 = .ok (.iload_n 2, 1) := by decide +kernel
theorem dX10_copy_3 : decode cX10_copy 3 = .ok (.aload_n 0, 1) := by decide +kernel
theorem dX10_copy_4 : decode cX10_copy 4 = .ok (.arraylength, 1) := by decide +kernel
theorem dX10_copy_5 : decode cX10_copy 5 = .ok (.if_icmp .ge 15, 3) := by decide +kernel
theorem dX10_copy_8 : decode cX10_copy 8 = .ok (.aload_n 1, 1) := by decide +kernel
theorem dX10_copy_9 : decode cX10_copy 9 = .ok (.iload_n 2, 1) := by decide +kernel
theorem dX10_copy_10 : decode cX10_copy 10 = .ok (.aload_n 0, 1) := by decide +kernel
theorem dX10_copy_11 : decode cX10_copy 11 = .ok (.iload_n 2, 1) := by decide +kernel
theorem dX10_copy_12 : decode cX10_copy 12 = .ok (.iaload, 1) := by decide +kernel
theorem dX10_copy_13 : decode cX10_copy 13 = .ok (.iastore, 1) := by decide +kernel
theorem dX10_copy_14 : decode cX10_copy 14 = .ok (.iinc 2 1, 3) := by decide +kernel
theorem dX10_copy_17 : decode cX10_copy 17 = .ok (.goto (-15), 3) := by decide +kernel
theorem dX10_copy_20 : decode cX10_copy 20 = .ok (.return_, 1) := by decide +kernel
theorem dX10_piece_0 : decode cX10_piece 0 = .ok (.aload_n 0, 1) := by decide +kernel
theorem dX10_piece_1 : decode cX10_piece 1 = .ok (.invokevirtual 83, 3) := by decide +kernel
theorem dX10_piece_4 : decode cX10_piece 4 = .ok (.aload_n 0, 1) := by decide +kernel
theorem dX10_piece_5 : decode cX10_piece 5 = .ok (.getfield 59, 3) := by decide +kernel
theorem dX10_piece_8 : decode cX10_piece 8 = .ok (.if_icmp .lt 11, 3) := by decide +kernel
theorem dX10_piece_11 : decode cX10_piece 11 = .ok (.aload_n 0, 1) := by decide +kernel
theorem dX10_piece_12 : decode cX10_piece 12 = .ok (.getfield 62, 3) := by decide +kernel
theorem dX10_piece_15 : decode cX10_piece 15 = .ok (.iconst 4, 1) := by decide +kernel
theorem dX10_piece_16 : decode cX10_piece 16 = .ok (.if_icmp .eq 6, 3) := by decide +kernel
theorem dX10_piece_19 : decode cX10_piece 19 = .ok (.bipush (-103), 2) := by decide +kernel
theorem dX10_piece_21 : decode cX10_piece 21 = .ok (.ireturn, 1) := by decide +kernel
theorem dX10_piece_22 : decode cX10_piece 22 = .ok (.aload_n 0, 1) := by decide +kernel
theorem dX10_piece_23 : decode cX10_piece 23 = .ok (.getfield 13, 3) := by decide +kernel
theorem dX10_piece_26 : decode cX10_piece 26 = .ok (.aload_n 0, 1) := by decide +kernel
theorem dX10_piece_27 : decode cX10_piece 27 = .ok (.getfield 16, 3) := by decide +kernel
theorem dX10_piece_30 : decode cX10_piece 30 = .ok (.invokestatic 87, 3) := by decide +kernel
theorem dX10_piece_33 : decode cX10_piece 33 = .ok (.aload_n 0, 1) := by decide +kernel
theorem dX10_piece_34 : decode cX10_piece 34 = .ok (.aload_n 0, 1) := by decide +kernel
theorem dX10_piece_35 : decode cX10_piece 35 = .ok (.getfield 65, 3) := by decide +kernel
theorem dX10_piece_38 : decode cX10_piece 38 = .ok (.putfield 91, 3) := by decide +kernel
theorem dX10_piece_41 : decode cX10_piece 41 = .ok (.aload_n 0, 1) := by decide +kernel
theorem dX10_piece_42 : decode cX10_piece 42 = .ok (.aload_n 0, 1) := by decide +kernel
theorem dX10_piece_43 : decode cX10_piece 43 = .ok (.getfield 74, 3) := by decide +kernel
theorem dX10_piece_46 : decode cX10_piece 46 = .ok (.putfield 94, 3) := by decide +kernel
theorem dX10_piece_49 : decode cX10_piece 49 = .ok (.aload_n 0, 1) := by decide +kernel
theorem dX10_piece_50 : decode cX10_piece 50 = .ok (.iconst 0, 1) := by decide +kernel
theorem dX10_piece_51 : decode cX10_piece 51 = .ok (.putfield 97, 3) := by decide +kernel
theorem dX10_piece_54 : decode cX10_piece 54 = .ok (.aload_n 0, 1) := by decide +kernel
theorem dX10_piece_55 : decode cX10_piece 55 = .ok (.iconst 0, 1) := by decide +kernel
theorem dX10_piece_56 : decode cX10_piece 56 = .ok (.putfield 100, 3) := by decide +kernel
theorem dX10_piece_59 : decode cX10_piece 59 = .ok (.aload_n 0, 1) := by decide +kernel
theorem dX10_piece_60 : decode cX10_piece 60 = .ok (.iconst 0, 1) := by decide +kernel
theorem dX10_piece_61 : decode cX10_piece 61 = .ok (.putfield 103, 3) := by decide +kernel
theorem dX10_piece_64 : decode cX10_piece 64 = .ok (.aload_n 0, 1) := by decide +kernel
theorem dX10_piece_65 : decode cX10_piece 65 = .ok (.iconst 0, 1) := by decide +kernel
theorem dX10_piece_66 : decode cX10_piece 66 = .ok (.putfield 106, 3) := by decide +kernel
theorem dX10_piece_69 : decode cX10_piece 69 = .ok (.aload_n 0, 1) := by decide +kernel
theorem dX10_piece_70 : decode cX10_piece 70 = .ok (.dup, 1) := by decide +kernel
theorem dX10_piece_71 : decode cX10_piece 71 = .ok (.getfield 109, 3) := by decide +kernel
theorem dX10_piece_74 : decode cX10_piece 74 = .ok (.iconst 1, 1) := by decide +kernel
theorem dX10_piece_75 : decode cX10_piece 75 = .ok (.iadd, 1) := by decide +kernel
theorem dX10_piece_76 : decode cX10_piece 76 = .ok (.putfield 109, 3) := by decide +kernel
theorem dX10_piece_79 : decode cX10_piece 79 = .ok (.aload_n 0, 1) := by decide +kernel
theorem dX10_piece_80 : decode cX10_piece 80 = .ok (.iconst 0, 1) := by decide +kernel
theorem dX10_piece_81 : decode cX10_piece 81 = .ok (.putfield 59, 3) := by decide +kernel
theorem dX10_piece_84 : decode cX10_piece 84 = .ok (.aload_n 0, 1) := by decide +kernel
theorem dX10_piece_85 : decode cX10_piece 85 = .ok (.getfield 91, 3) := by decide +kernel
theorem dX10_piece_88 : decode cX10_piece 88 = .ok (.ireturn, 1) := by decide +kernel
theorem dX10_lacks_0 : decode cX10_lacks 0 = .ok (.aload_n 0, 1) := by decide +kernel
theorem dX10_lacks_1 : decode cX10_lacks 1 = .ok (.getfield 91, 3) := by decide +kernel
theorem dX10_lacks_4 : decode cX10_lacks 4 = .ok (.ifCond .ne 7, 3) := by decide +kernel
theorem dX10_lacks_7 : decode cX10_lacks 7 = .ok (.iconst 1, 1) := by decide +kernel
theorem dX10_lacks_8 : decode cX10_lacks 8 = .ok (.goto 4, 3) := by decide +kernel
theorem dX10_lacks_11 : decode cX10_lacks 11 = .ok (.iconst 0, 1) := by decide +kernel
theorem dX10_lacks_12 : decode cX10_lacks 12 = .ok (.ireturn, 1) := by decide +kernel
theorem dX10_isBar_0 : decode cX10_isBar 0 = .ok (.iload_n 1, 1) := by decide +kernel
theorem dX10_isBar_1 : decode cX10_isBar 1 = .ok (.i2l, 1) := by decide +kernel
theorem dX10_isBar_2 : decode cX10_isBar 2 = .ok (.lconst 0, 1) := by decide +kernel
theorem dX10_isBar_3 : decode cX10_isBar 3 = .ok (.aload_n 0, 1) := by decide +kernel
theorem dX10_isBar_4 : decode cX10_isBar 4 = .ok (.getfield 91, 3) := by decide +kernel
theorem dX10_isBar_7 : decode cX10_isBar 7 = .ok (.iconst 1, 1) := by decide +kernel
theorem dX10_isBar_8 : decode cX10_isBar 8 = .ok (.isub, 1) := by decide +kernel
theorem dX10_isBar_9 : decode cX10_isBar 9 = .ok (.i2l, 1) := by decide +kernel
theorem dX10_isBar_10 : decode cX10_isBar 10 = .ok (.invokestatic 55, 3) := by decide +kernel
theorem dX10_isBar_13 : decode cX10_isBar 13 = .ok (.ireturn, 1) := by decide +kernel
theorem dX10_isPlayer_0 : decode cX10_isPlayer 0 = .ok (.iload_n 1, 1) := by decide +kernel
theorem dX10_isPlayer_1 : decode cX10_isPlayer 1 = .ok (.i2l, 1) := by decide +kernel
theorem dX10_isPlayer_2 : decode cX10_isPlayer 2 = .ok (.lconst 0, 1) := by decide +kernel
theorem dX10_isPlayer_3 : decode cX10_isPlayer 3 = .ok (.aload_n 0, 1) := by decide +kernel
theorem dX10_isPlayer_4 : decode cX10_isPlayer 4 = .ok (.getfield 103, 3) := by decide +kernel
theorem dX10_isPlayer_7 : decode cX10_isPlayer 7 = .ok (.iconst 1, 1) := by decide +kernel
theorem dX10_isPlayer_8 : decode cX10_isPlayer 8 = .ok (.isub, 1) := by decide +kernel
theorem dX10_isPlayer_9 : decode cX10_isPlayer 9 = .ok (.i2l, 1) := by decide +kernel
theorem dX10_isPlayer_10 : decode cX10_isPlayer 10 = .ok (.invokestatic 55, 3) := by decide +kernel
theorem dX10_isPlayer_13 : decode cX10_isPlayer 13 = .ok (.ireturn, 1) := by decide +kernel
theorem dX10_player_0 : decode cX10_player 0 = .ok (.iload_n 1, 1) := by decide +kernel
theorem dX10_player_1 : decode cX10_player 1 = .ok (.i2l, 1) := by decide +kernel
theorem dX10_player_2 : decode cX10_player 2 = .ok (.lconst 0, 1) := by decide +kernel
theorem dX10_player_3 : decode cX10_player 3 = .ok (.ldc2_w 72, 3) := by decide +kernel
theorem dX10_player_6 : decode cX10_player 6 = .ok (.invokestatic 55, 3) := by decide +kernel
theorem dX10_player_9 : decode cX10_player 9 = .ok (.ifCond .eq 15, 3) := by decide +kernel
theorem dX10_player_12 : decode cX10_player 12 = .ok (.iload_n 2, 1) := by decide +kernel
theorem dX10_player_13 : decode cX10_player 13 = .ok (.i2l, 1) := by decide +kernel
theorem dX10_player_14 : decode cX10_player 14 = .ok (.lconst 0, 1) := by decide +kernel
theorem dX10_player_15 : decode cX10_player 15 = .ok (.ldc2_w 77, 3) := by decide +kernel
theorem dX10_player_18 : decode cX10_player 18 = .ok (.invokestatic 55, 3) := by decide +kernel
theorem dX10_player_21 : decode cX10_player 21 = .ok (.ifCond .ne 6, 3) := by decide +kernel
theorem dX10_player_24 : decode cX10_player 24 = .ok (.bipush (-102), 2) := by decide +kernel
theorem dX10_player_26 : decode cX10_player 26 = .ok (.ireturn, 1) := by decide +kernel
theorem dX10_player_27 : decode cX10_player 27 = .ok (.aload_n 0, 1) := by decide +kernel
theorem dX10_player_28 : decode cX10_player 28 = .ok (.invokevirtual 112, 3) := by decide +kernel
theorem dX10_player_31 : decode cX10_player 31 = .ok (.ifCond .eq 6, 3) := by decide +kernel
theorem dX10_player_34 : decode cX10_player 34 = .ok (.bipush (-103), 2) := by decide +kernel
theorem dX10_player_36 : decode cX10_player 36 = .ok (.ireturn, 1) := by decide +kernel
theorem dX10_player_37 : decode cX10_player 37 = .ok (.aload_n 0, 1) := by decide +kernel
theorem dX10_player_38 : decode cX10_player 38 = .ok (.getfield 103, 3) := by decide +kernel
theorem dX10_player_41 : decode cX10_player 41 = .ok (.iconst 4, 1) := by decide +kernel
theorem dX10_player_42 : decode cX10_player 42 = .ok (.if_icmp .ne 6, 3) := by decide +kernel
theorem dX10_player_45 : decode cX10_player 45 = .ok (.bipush (-104), 2) := by decide +kernel
theorem dX10_player_47 : decode cX10_player 47 = .ok (.ireturn, 1) := by decide +kernel
theorem dX10_player_48 : decode cX10_player 48 = .ok (.aload_n 0, 1) := by decide +kernel
theorem dX10_player_49 : decode cX10_player 49 = .ok (.getfield 19, 3) := by decide +kernel
theorem dX10_player_52 : decode cX10_player 52 = .ok (.iconst 4, 1) := by decide +kernel
theorem dX10_player_53 : decode cX10_player 53 = .ok (.aload_n 0, 1) := by decide +kernel
theorem dX10_player_54 : decode cX10_player 54 = .ok (.getfield 103, 3) := by decide +kernel
theorem dX10_player_57 : decode cX10_player 57 = .ok (.imul, 1) := by decide +kernel
theorem dX10_player_58 : decode cX10_player 58 = .ok (.iload_n 1, 1) := by decide +kernel
theorem dX10_player_59 : decode cX10_player 59 = .ok (.iastore, 1) := by decide +kernel
theorem dX10_player_60 : decode cX10_player 60 = .ok (.aload_n 0, 1) := by decide +kernel
theorem dX10_player_61 : decode cX10_player 61 = .ok (.getfield 19, 3) := by decide +kernel
theorem dX10_player_64 : decode cX10_player 64 = .ok (.iconst 4, 1) := by decide +kernel
theorem dX10_player_65 : decode cX10_player 65 = .ok (.aload_n 0, 1) := by decide +kernel
theorem dX10_player_66 : decode cX10_player 66 = .ok (.getfield 103, 3) := by decide +kernel
theorem dX10_player_69 : decode cX10_player 69 = .ok (.imul, 1) := by decide +kernel
theorem dX10_player_70 : decode cX10_player 70 = .ok (.iconst 1, 1) := by decide +kernel
theorem dX10_player_71 : decode cX10_player 71 = .ok (.iadd, 1) := by decide +kernel
theorem dX10_player_72 : decode cX10_player 72 = .ok (.iload_n 2, 1) := by decide +kernel
theorem dX10_player_73 : decode cX10_player 73 = .ok (.iastore, 1) := by decide +kernel
theorem dX10_player_74 : decode cX10_player 74 = .ok (.aload_n 0, 1) := by decide +kernel
theorem dX10_player_75 : decode cX10_player 75 = .ok (.getfield 19, 3) := by decide +kernel
theorem dX10_player_78 : decode cX10_player 78 = .ok (.iconst 4, 1) := by decide +kernel
theorem dX10_player_79 : decode cX10_player 79 = .ok (.aload_n 0, 1) := by decide +kernel
theorem dX10_player_80 : decode cX10_player 80 = .ok (.getfield 103, 3) := by decide +kernel
theorem dX10_player_83 : decode cX10_player 83 = .ok (.imul, 1) := by decide +kernel
theorem dX10_player_84 : decode cX10_player 84 = .ok (.iconst 2, 1) := by decide +kernel
theorem dX10_player_85 : decode cX10_player 85 = .ok (.iadd, 1) := by decide +kernel
theorem dX10_player_86 : decode cX10_player 86 = .ok (.iconst 0, 1) := by decide +kernel
theorem dX10_player_87 : decode cX10_player 87 = .ok (.iastore, 1) := by decide +kernel
theorem dX10_player_88 : decode cX10_player 88 = .ok (.aload_n 0, 1) := by decide +kernel
theorem dX10_player_89 : decode cX10_player 89 = .ok (.getfield 19, 3) := by decide +kernel
theorem dX10_player_92 : decode cX10_player 92 = .ok (.iconst 4, 1) := by decide +kernel
theorem dX10_player_93 : decode cX10_player 93 = .ok (.aload_n 0, 1) := by decide +kernel
theorem dX10_player_94 : decode cX10_player 94 = .ok (.getfield 103, 3) := by decide +kernel
theorem dX10_player_97 : decode cX10_player 97 = .ok (.imul, 1) := by decide +kernel
theorem dX10_player_98 : decode cX10_player 98 = .ok (.iconst 3, 1) := by decide +kernel
theorem dX10_player_99 : decode cX10_player 99 = .ok (.iadd, 1) := by decide +kernel
theorem dX10_player_100 : decode cX10_player 100 = .ok (.iconst 0, 1) := by decide +kernel
theorem dX10_player_101 : decode cX10_player 101 = .ok (.iastore, 1) := by decide +kernel
theorem dX10_player_102 : decode cX10_player 102 = .ok (.aload_n 0, 1) := by decide +kernel
theorem dX10_player_103 : decode cX10_player 103 = .ok (.dup, 1) := by decide +kernel
theorem dX10_player_104 : decode cX10_player 104 = .ok (.getfield 103, 3) := by decide +kernel
theorem dX10_player_107 : decode cX10_player 107 = .ok (.iconst 1, 1) := by decide +kernel
theorem dX10_player_108 : decode cX10_player 108 = .ok (.iadd, 1) := by decide +kernel
theorem dX10_player_109 : decode cX10_player 109 = .ok (.putfield 103, 3) := by decide +kernel
theorem dX10_player_112 : decode cX10_player 112 = .ok (.aload_n 0, 1) := by decide +kernel
theorem dX10_player_113 : decode cX10_player 113 = .ok (.getfield 103, 3) := by decide +kernel
theorem dX10_player_116 : decode cX10_player 116 = .ok (.iconst 1, 1) := by decide +kernel
theorem dX10_player_117 : decode cX10_player 117 = .ok (.isub, 1) := by decide +kernel
theorem dX10_player_118 : decode cX10_player 118 = .ok (.ireturn, 1) := by decide +kernel
theorem dX10_asItIs_0 : decode cX10_asItIs 0 = .ok (.iconst 0, 1) := by decide +kernel
theorem dX10_asItIs_1 : decode cX10_asItIs 1 = .ok (.istore_n 1, 1) := by decide +kernel
theorem dX10_asItIs_2 : decode cX10_asItIs 2 = .ok (.iload_n 1, 1) := by decide +kernel
theorem dX10_asItIs_3 : decode cX10_asItIs 3 = .ok (.aload_n 0, 1) := by decide +kernel
theorem dX10_asItIs_4 : decode cX10_asItIs 4 = .ok (.getfield 103, 3) := by decide +kernel
theorem dX10_asItIs_7 : decode cX10_asItIs 7 = .ok (.if_icmp .ge 25, 3) := by decide +kernel
theorem dX10_asItIs_10 : decode cX10_asItIs 10 = .ok (.aload_n 0, 1) := by decide +kernel
theorem dX10_asItIs_11 : decode cX10_asItIs 11 = .ok (.getfield 25, 3) := by decide +kernel
theorem dX10_asItIs_14 : decode cX10_asItIs 14 = .ok (.iload_n 1, 1) := by decide +kernel
theorem dX10_asItIs_15 : decode cX10_asItIs 15 = .ok (.aload_n 0, 1) := by decide +kernel
theorem dX10_asItIs_16 : decode cX10_asItIs 16 = .ok (.getfield 19, 3) := by decide +kernel
