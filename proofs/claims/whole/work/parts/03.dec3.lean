theorem dX12_behind_84 : decode cX12_behind 84 = .ok (.goto 5, 3) := by decide +kernel
theorem dX12_behind_87 : decode cX12_behind 87 = .ok (.iload 6, 2) := by decide +kernel
theorem dX12_behind_89 : decode cX12_behind 89 = .ok (.istore 10, 2) := by decide +kernel
theorem dX12_behind_91 : decode cX12_behind 91 = .ok (.iload_n 2, 1) := by decide +kernel
theorem dX12_behind_92 : decode cX12_behind 92 = .ok (.iconst 1, 1) := by decide +kernel
theorem dX12_behind_93 : decode cX12_behind 93 = .ok (.iadd, 1) := by decide +kernel
theorem dX12_behind_94 : decode cX12_behind 94 = .ok (.iload_n 3, 1) := by decide +kernel
theorem dX12_behind_95 : decode cX12_behind 95 = .ok (.iconst 1, 1) := by decide +kernel
theorem dX12_behind_96 : decode cX12_behind 96 = .ok (.isub, 1) := by decide +kernel
theorem dX12_behind_97 : decode cX12_behind 97 = .ok (.iload 8, 2) := by decide +kernel
theorem dX12_behind_99 : decode cX12_behind 99 = .ok (.iload 9, 2) := by decide +kernel
theorem dX12_behind_101 : decode cX12_behind 101 = .ok (.iload 10, 2) := by decide +kernel
theorem dX12_behind_103 : decode cX12_behind 103 = .ok (.invokestatic 204, 3) := by decide +kernel
theorem dX12_behind_106 : decode cX12_behind 106 = .ok (.ireturn, 1) := by decide +kernel
theorem dX12_layCan_0 : decode cX12_layCan 0 = .ok (.aload_n 0, 1) := by decide +kernel
theorem dX12_layCan_1 : decode cX12_layCan 1 = .ok (.invokevirtual 141, 3) := by decide +kernel
theorem dX12_layCan_4 : decode cX12_layCan 4 = .ok (.istore_n 2, 1) := by decide +kernel
theorem dX12_layCan_5 : decode cX12_layCan 5 = .ok (.iload_n 1, 1) := by decide +kernel
theorem dX12_layCan_6 : decode cX12_layCan 6 = .ok (.iconst 3, 1) := by decide +kernel
theorem dX12_layCan_7 : decode cX12_layCan 7 = .ok (.if_icmp .ne 10, 3) := by decide +kernel
theorem dX12_layCan_10 : decode cX12_layCan 10 = .ok (.aload_n 0, 1) := by decide +kernel
theorem dX12_layCan_11 : decode cX12_layCan 11 = .ok (.invokevirtual 157, 3) := by decide +kernel
theorem dX12_layCan_14 : decode cX12_layCan 14 = .ok (.goto 4, 3) := by decide +kernel
theorem dX12_layCan_17 : decode cX12_layCan 17 = .ok (.iconst 1, 1) := by decide +kernel
theorem dX12_layCan_18 : decode cX12_layCan 18 = .ok (.istore_n 3, 1) := by decide +kernel
theorem dX12_layCan_19 : decode cX12_layCan 19 = .ok (.iconst 0, 1) := by decide +kernel
theorem dX12_layCan_20 : decode cX12_layCan 20 = .ok (.istore 4, 2) := by decide +kernel
theorem dX12_layCan_22 : decode cX12_layCan 22 = .ok (.iload 4, 2) := by decide +kernel
theorem dX12_layCan_24 : decode cX12_layCan 24 = .ok (.bipush 21, 2) := by decide +kernel
theorem dX12_layCan_26 : decode cX12_layCan 26 = .ok (.if_icmp .ge 65, 3) := by decide +kernel
theorem dX12_layCan_29 : decode cX12_layCan 29 = .ok (.iconst 0, 1) := by decide +kernel
theorem dX12_layCan_30 : decode cX12_layCan 30 = .ok (.istore 5, 2) := by decide +kernel
theorem dX12_layCan_32 : decode cX12_layCan 32 = .ok (.iload 5, 2) := by decide +kernel
theorem dX12_layCan_34 : decode cX12_layCan 34 = .ok (.sipush 200, 3) := by decide +kernel
theorem dX12_layCan_37 : decode cX12_layCan 37 = .ok (.if_icmp .ge 48, 3) := by decide +kernel
theorem dX12_layCan_40 : decode cX12_layCan 40 = .ok (.aload_n 0, 1) := by decide +kernel
theorem dX12_layCan_41 : decode cX12_layCan 41 = .ok (.getfield 37, 3) := by decide +kernel
theorem dX12_layCan_44 : decode cX12_layCan 44 = .ok (.sipush 200, 3) := by decide +kernel
theorem dX12_layCan_47 : decode cX12_layCan 47 = .ok (.bipush 21, 2) := by decide +kernel
theorem dX12_layCan_49 : decode cX12_layCan 49 = .ok (.iload_n 2, 1) := by decide +kernel
theorem dX12_layCan_50 : decode cX12_layCan 50 = .ok (.imul, 1) := by decide +kernel
theorem dX12_layCan_51 : decode cX12_layCan 51 = .ok (.iload 4, 2) := by decide +kernel
theorem dX12_layCan_53 : decode cX12_layCan 53 = .ok (.iadd, 1) := by decide +kernel
theorem dX12_layCan_54 : decode cX12_layCan 54 = .ok (.imul, 1) := by decide +kernel
theorem dX12_layCan_55 : decode cX12_layCan 55 = .ok (.iload 5, 2) := by decide +kernel
theorem dX12_layCan_57 : decode cX12_layCan 57 = .ok (.iadd, 1) := by decide +kernel
theorem dX12_layCan_58 : decode cX12_layCan 58 = .ok (.iload 5, 2) := by decide +kernel
theorem dX12_layCan_60 : decode cX12_layCan 60 = .ok (.ifCond .ne 17, 3) := by decide +kernel
theorem dX12_layCan_63 : decode cX12_layCan 63 = .ok (.iload 4, 2) := by decide +kernel
theorem dX12_layCan_65 : decode cX12_layCan 65 = .ok (.ifCond .eq 8, 3) := by decide +kernel
theorem dX12_layCan_68 : decode cX12_layCan 68 = .ok (.iload_n 1, 1) := by decide +kernel
theorem dX12_layCan_69 : decode cX12_layCan 69 = .ok (.iconst 1, 1) := by decide +kernel
theorem dX12_layCan_70 : decode cX12_layCan 70 = .ok (.if_icmp .ne 7, 3) := by decide +kernel
theorem dX12_layCan_73 : decode cX12_layCan 73 = .ok (.iconst 1, 1) := by decide +kernel
theorem dX12_layCan_74 : decode cX12_layCan 74 = .ok (.goto 4, 3) := by decide +kernel
theorem dX12_layCan_77 : decode cX12_layCan 77 = .ok (.iconst 0, 1) := by decide +kernel
theorem dX12_layCan_78 : decode cX12_layCan 78 = .ok (.bastore, 1) := by decide +kernel
theorem dX12_layCan_79 : decode cX12_layCan 79 = .ok (.iinc 5 1, 3) := by decide +kernel
theorem dX12_layCan_82 : decode cX12_layCan 82 = .ok (.goto (-50), 3) := by decide +kernel
theorem dX12_layCan_85 : decode cX12_layCan 85 = .ok (.iinc 4 1, 3) := by decide +kernel
theorem dX12_layCan_88 : decode cX12_layCan 88 = .ok (.goto (-66), 3) := by decide +kernel
theorem dX12_layCan_91 : decode cX12_layCan 91 = .ok (.iload_n 2, 1) := by decide +kernel
theorem dX12_layCan_92 : decode cX12_layCan 92 = .ok (.iconst 1, 1) := by decide +kernel
theorem dX12_layCan_93 : decode cX12_layCan 93 = .ok (.isub, 1) := by decide +kernel
theorem dX12_layCan_94 : decode cX12_layCan 94 = .ok (.istore 4, 2) := by decide +kernel
theorem dX12_layCan_96 : decode cX12_layCan 96 = .ok (.iload 4, 2) := by decide +kernel
theorem dX12_layCan_98 : decode cX12_layCan 98 = .ok (.ifCond .lt 148, 3) := by decide +kernel
theorem dX12_layCan_101 : decode cX12_layCan 101 = .ok (.iconst 0, 1) := by decide +kernel
theorem dX12_layCan_102 : decode cX12_layCan 102 = .ok (.istore 5, 2) := by decide +kernel
theorem dX12_layCan_104 : decode cX12_layCan 104 = .ok (.iload 5, 2) := by decide +kernel
theorem dX12_layCan_106 : decode cX12_layCan 106 = .ok (.bipush 21, 2) := by decide +kernel
theorem dX12_layCan_108 : decode cX12_layCan 108 = .ok (.if_icmp .ge 132, 3) := by decide +kernel
theorem dX12_layCan_111 : decode cX12_layCan 111 = .ok (.iconst 0, 1) := by decide +kernel
theorem dX12_layCan_112 : decode cX12_layCan 112 = .ok (.istore 6, 2) := by decide +kernel
theorem dX12_layCan_114 : decode cX12_layCan 114 = .ok (.iload 6, 2) := by decide +kernel
theorem dX12_layCan_116 : decode cX12_layCan 116 = .ok (.aload_n 0, 1) := by decide +kernel
theorem dX12_layCan_117 : decode cX12_layCan 117 = .ok (.invokevirtual 157, 3) := by decide +kernel
theorem dX12_layCan_120 : decode cX12_layCan 120 = .ok (.iload_n 3, 1) := by decide +kernel
theorem dX12_layCan_121 : decode cX12_layCan 121 = .ok (.imul, 1) := by decide +kernel
theorem dX12_layCan_122 : decode cX12_layCan 122 = .ok (.iconst 2, 1) := by decide +kernel
theorem dX12_layCan_123 : decode cX12_layCan 123 = .ok (.imul, 1) := by decide +kernel
theorem dX12_layCan_124 : decode cX12_layCan 124 = .ok (.if_icmp .ge 110, 3) := by decide +kernel
theorem dX12_layCan_127 : decode cX12_layCan 127 = .ok (.iload 6, 2) := by decide +kernel
theorem dX12_layCan_129 : decode cX12_layCan 129 = .ok (.iconst 2, 1) := by decide +kernel
theorem dX12_layCan_130 : decode cX12_layCan 130 = .ok (.idiv, 1) := by decide +kernel
theorem dX12_layCan_131 : decode cX12_layCan 131 = .ok (.iload_n 3, 1) := by decide +kernel
theorem dX12_layCan_132 : decode cX12_layCan 132 = .ok (.idiv, 1) := by decide +kernel
theorem dX12_layCan_133 : decode cX12_layCan 133 = .ok (.istore 7, 2) := by decide +kernel
theorem dX12_layCan_135 : decode cX12_layCan 135 = .ok (.iload 6, 2) := by decide +kernel
theorem dX12_layCan_137 : decode cX12_layCan 137 = .ok (.iconst 2, 1) := by decide +kernel
theorem dX12_layCan_138 : decode cX12_layCan 138 = .ok (.idiv, 1) := by decide +kernel
theorem dX12_layCan_139 : decode cX12_layCan 139 = .ok (.iload_n 3, 1) := by decide +kernel
theorem dX12_layCan_140 : decode cX12_layCan 140 = .ok (.irem, 1) := by decide +kernel
theorem dX12_layCan_141 : decode cX12_layCan 141 = .ok (.istore 8, 2) := by decide +kernel
theorem dX12_layCan_143 : decode cX12_layCan 143 = .ok (.aload_n 0, 1) := by decide +kernel
theorem dX12_layCan_144 : decode cX12_layCan 144 = .ok (.iload_n 1, 1) := by decide +kernel
theorem dX12_layCan_145 : decode cX12_layCan 145 = .ok (.iload 4, 2) := by decide +kernel
theorem dX12_layCan_147 : decode cX12_layCan 147 = .ok (.iload 5, 2) := by decide +kernel
theorem dX12_layCan_149 : decode cX12_layCan 149 = .ok (.iload 7, 2) := by decide +kernel
theorem dX12_layCan_151 : decode cX12_layCan 151 = .ok (.iload 8, 2) := by decide +kernel
theorem dX12_layCan_153 : decode cX12_layCan 153 = .ok (.iload 6, 2) := by decide +kernel
theorem dX12_layCan_155 : decode cX12_layCan 155 = .ok (.iconst 2, 1) := by decide +kernel
theorem dX12_layCan_156 : decode cX12_layCan 156 = .ok (.irem, 1) := by decide +kernel
theorem dX12_layCan_157 : decode cX12_layCan 157 = .ok (.invokevirtual 208, 3) := by decide +kernel
theorem dX12_layCan_160 : decode cX12_layCan 160 = .ok (.istore 9, 2) := by decide +kernel
theorem dX12_layCan_162 : decode cX12_layCan 162 = .ok (.aload_n 0, 1) := by decide +kernel
theorem dX12_layCan_163 : decode cX12_layCan 163 = .ok (.getfield 37, 3) := by decide +kernel
theorem dX12_layCan_166 : decode cX12_layCan 166 = .ok (.iload 4, 2) := by decide +kernel
theorem dX12_layCan_168 : decode cX12_layCan 168 = .ok (.iload 5, 2) := by decide +kernel
theorem dX12_layCan_170 : decode cX12_layCan 170 = .ok (.iload 7, 2) := by decide +kernel
theorem dX12_layCan_172 : decode cX12_layCan 172 = .ok (.iload 8, 2) := by decide +kernel
theorem dX12_layCan_174 : decode cX12_layCan 174 = .ok (.iload 6, 2) := by decide +kernel
theorem dX12_layCan_176 : decode cX12_layCan 176 = .ok (.iconst 2, 1) := by decide +kernel
theorem dX12_layCan_177 : decode cX12_layCan 177 = .ok (.irem, 1) := by decide +kernel
theorem dX12_layCan_178 : decode cX12_layCan 178 = .ok (.invokestatic 204, 3) := by decide +kernel
theorem dX12_layCan_181 : decode cX12_layCan 181 = .ok (.aload_n 0, 1) := by decide +kernel
theorem dX12_layCan_182 : decode cX12_layCan 182 = .ok (.getfield 37, 3) := by decide +kernel
theorem dX12_layCan_185 : decode cX12_layCan 185 = .ok (.iload 4, 2) := by decide +kernel
theorem dX12_layCan_187 : decode cX12_layCan 187 = .ok (.iconst 1, 1) := by decide +kernel
theorem dX12_layCan_188 : decode cX12_layCan 188 = .ok (.iadd, 1) := by decide +kernel
theorem dX12_layCan_189 : decode cX12_layCan 189 = .ok (.iload 5, 2) := by decide +kernel
theorem dX12_layCan_191 : decode cX12_layCan 191 = .ok (.iload 7, 2) := by decide +kernel
theorem dX12_layCan_193 : decode cX12_layCan 193 = .ok (.iload 8, 2) := by decide +kernel
theorem dX12_layCan_195 : decode cX12_layCan 195 = .ok (.iload 6, 2) := by decide +kernel
theorem dX12_layCan_197 : decode cX12_layCan 197 = .ok (.iconst 2, 1) := by decide +kernel
theorem dX12_layCan_198 : decode cX12_layCan 198 = .ok (.irem, 1) := by decide +kernel
theorem dX12_layCan_199 : decode cX12_layCan 199 = .ok (.invokestatic 204, 3) := by decide +kernel
theorem dX12_layCan_202 : decode cX12_layCan 202 = .ok (.baload, 1) := by decide +kernel
theorem dX12_layCan_203 : decode cX12_layCan 203 = .ok (.ifCond .ne 19, 3) := by decide +kernel
theorem dX12_layCan_206 : decode cX12_layCan 206 = .ok (.iload 9, 2) := by decide +kernel
theorem dX12_layCan_208 : decode cX12_layCan 208 = .ok (.iconst (-1), 1) := by decide +kernel
theorem dX12_layCan_209 : decode cX12_layCan 209 = .ok (.if_icmp .eq 17, 3) := by decide +kernel
theorem dX12_layCan_212 : decode cX12_layCan 212 = .ok (.aload_n 0, 1) := by decide +kernel
theorem dX12_layCan_213 : decode cX12_layCan 213 = .ok (.getfield 37, 3) := by decide +kernel
theorem dX12_layCan_216 : decode cX12_layCan 216 = .ok (.iload 9, 2) := by decide +kernel
theorem dX12_layCan_218 : decode cX12_layCan 218 = .ok (.baload, 1) := by decide +kernel
theorem dX12_layCan_219 : decode cX12_layCan 219 = .ok (.ifCond .eq 7, 3) := by decide +kernel
theorem dX12_layCan_222 : decode cX12_layCan 222 = .ok (.iconst 1, 1) := by decide +kernel
theorem dX12_layCan_223 : decode cX12_layCan 223 = .ok (.goto 4, 3) := by decide +kernel
theorem dX12_layCan_226 : decode cX12_layCan 226 = .ok (.iconst 0, 1) := by decide +kernel
theorem dX12_layCan_227 : decode cX12_layCan 227 = .ok (.bastore, 1) := by decide +kernel
theorem dX12_layCan_228 : decode cX12_layCan 228 = .ok (.iinc 6 1, 3) := by decide +kernel
theorem dX12_layCan_231 : decode cX12_layCan 231 = .ok (.goto (-117), 3) := by decide +kernel
theorem dX12_layCan_234 : decode cX12_layCan 234 = .ok (.iinc 5 1, 3) := by decide +kernel
theorem dX12_layCan_237 : decode cX12_layCan 237 = .ok (.goto (-133), 3) := by decide +kernel
theorem dX12_layCan_240 : decode cX12_layCan 240 = .ok (.iinc 4 (-1), 3) := by decide +kernel
theorem dX12_layCan_243 : decode cX12_layCan 243 = .ok (.goto (-147), 3) := by decide +kernel
theorem dX12_layCan_246 : decode cX12_layCan 246 = .ok (.return_, 1) := by decide +kernel
theorem dX12_findBy_0 : decode cX12_findBy 0 = .ok (.aload_n 0, 1) := by decide +kernel
theorem dX12_findBy_1 : decode cX12_findBy 1 = .ok (.iload_n 1, 1) := by decide +kernel
theorem dX12_findBy_2 : decode cX12_findBy 2 = .ok (.invokevirtual 212, 3) := by decide +kernel
theorem dX12_findBy_5 : decode cX12_findBy 5 = .ok (.iconst 0, 1) := by decide +kernel
theorem dX12_findBy_6 : decode cX12_findBy 6 = .ok (.iload_n 2, 1) := by decide +kernel
theorem dX12_findBy_7 : decode cX12_findBy 7 = .ok (.iconst 0, 1) := by decide +kernel
theorem dX12_findBy_8 : decode cX12_findBy 8 = .ok (.iconst 0, 1) := by decide +kernel
theorem dX12_findBy_9 : decode cX12_findBy 9 = .ok (.iload_n 1, 1) := by decide +kernel
theorem dX12_findBy_10 : decode cX12_findBy 10 = .ok (.iconst 4, 1) := by decide +kernel
theorem dX12_findBy_11 : decode cX12_findBy 11 = .ok (.if_icmp .lt 7, 3) := by decide +kernel
theorem dX12_findBy_14 : decode cX12_findBy 14 = .ok (.iconst 1, 1) := by decide +kernel
theorem dX12_findBy_15 : decode cX12_findBy 15 = .ok (.goto 4, 3) := by decide +kernel
theorem dX12_findBy_18 : decode cX12_findBy 18 = .ok (.iconst 0, 1) := by decide +kernel
theorem dX12_findBy_19 : decode cX12_findBy 19 = .ok (.invokestatic 204, 3) := by decide +kernel
theorem dX12_findBy_22 : decode cX12_findBy 22 = .ok (.istore_n 3, 1) := by decide +kernel
theorem dX12_findBy_23 : decode cX12_findBy 23 = .ok (.aload_n 0, 1) := by decide +kernel
theorem dX12_findBy_24 : decode cX12_findBy 24 = .ok (.getfield 37, 3) := by decide +kernel
theorem dX12_findBy_27 : decode cX12_findBy 27 = .ok (.iload_n 3, 1) := by decide +kernel
theorem dX12_findBy_28 : decode cX12_findBy 28 = .ok (.baload, 1) := by decide +kernel
theorem dX12_findBy_29 : decode cX12_findBy 29 = .ok (.ifCond .ne 5, 3) := by decide +kernel
theorem dX12_findBy_32 : decode cX12_findBy 32 = .ok (.iconst (-1), 1) := by decide +kernel
theorem dX12_findBy_33 : decode cX12_findBy 33 = .ok (.ireturn, 1) := by decide +kernel
theorem dX12_findBy_34 : decode cX12_findBy 34 = .ok (.iconst 0, 1) := by decide +kernel
theorem dX12_findBy_35 : decode cX12_findBy 35 = .ok (.istore 4, 2) := by decide +kernel
theorem dX12_findBy_37 : decode cX12_findBy 37 = .ok (.iconst 0, 1) := by decide +kernel
theorem dX12_findBy_38 : decode cX12_findBy 38 = .ok (.istore 5, 2) := by decide +kernel
theorem dX12_findBy_40 : decode cX12_findBy 40 = .ok (.iload 5, 2) := by decide +kernel
theorem dX12_findBy_42 : decode cX12_findBy 42 = .ok (.aload_n 0, 1) := by decide +kernel
theorem dX12_findBy_43 : decode cX12_findBy 43 = .ok (.invokevirtual 141, 3) := by decide +kernel
theorem dX12_findBy_46 : decode cX12_findBy 46 = .ok (.if_icmp .ge 99, 3) := by decide +kernel
theorem dX12_findBy_49 : decode cX12_findBy 49 = .ok (.aload_n 0, 1) := by decide +kernel
theorem dX12_findBy_50 : decode cX12_findBy 50 = .ok (.iload_n 1, 1) := by decide +kernel
theorem dX12_findBy_51 : decode cX12_findBy 51 = .ok (.iload 5, 2) := by decide +kernel
theorem dX12_findBy_53 : decode cX12_findBy 53 = .ok (.iload_n 3, 1) := by decide +kernel
theorem dX12_findBy_54 : decode cX12_findBy 54 = .ok (.sipush 200, 3) := by decide +kernel
theorem dX12_findBy_57 : decode cX12_findBy 57 = .ok (.idiv, 1) := by decide +kernel
theorem dX12_findBy_58 : decode cX12_findBy 58 = .ok (.bipush 21, 2) := by decide +kernel
theorem dX12_findBy_60 : decode cX12_findBy 60 = .ok (.irem, 1) := by decide +kernel
theorem dX12_findBy_61 : decode cX12_findBy 61 = .ok (.iload_n 3, 1) := by decide +kernel
theorem dX12_findBy_62 : decode cX12_findBy 62 = .ok (.bipush 20, 2) := by decide +kernel
theorem dX12_findBy_64 : decode cX12_findBy 64 = .ok (.idiv, 1) := by decide +kernel
theorem dX12_findBy_65 : decode cX12_findBy 65 = .ok (.bipush 10, 2) := by decide +kernel
theorem dX12_findBy_67 : decode cX12_findBy 67 = .ok (.irem, 1) := by decide +kernel
theorem dX12_findBy_68 : decode cX12_findBy 68 = .ok (.iload_n 3, 1) := by decide +kernel
theorem dX12_findBy_69 : decode cX12_findBy 69 = .ok (.iconst 2, 1) := by decide +kernel
theorem dX12_findBy_70 : decode cX12_findBy 70 = .ok (.idiv, 1) := by decide +kernel
theorem dX12_findBy_71 : decode cX12_findBy 71 = .ok (.bipush 10, 2) := by decide +kernel
theorem dX12_findBy_73 : decode cX12_findBy 73 = .ok (.irem, 1) := by decide +kernel
theorem dX12_findBy_74 : decode cX12_findBy 74 = .ok (.iload_n 3, 1) := by decide +kernel
theorem dX12_findBy_75 : decode cX12_findBy 75 = .ok (.iconst 2, 1) := by decide +kernel
theorem dX12_findBy_76 : decode cX12_findBy 76 = .ok (.irem, 1) := by decide +kernel
theorem dX12_findBy_77 : decode cX12_findBy 77 = .ok (.invokevirtual 208, 3) := by decide +kernel
theorem dX12_findBy_80 : decode cX12_findBy 80 = .ok (.istore 6, 2) := by decide +kernel
theorem dX12_findBy_82 : decode cX12_findBy 82 = .ok (.iload 6, 2) := by decide +kernel
theorem dX12_findBy_84 : decode cX12_findBy 84 = .ok (.iconst (-1), 1) := by decide +kernel
theorem dX12_findBy_85 : decode cX12_findBy 85 = .ok (.if_icmp .eq 17, 3) := by decide +kernel
theorem dX12_findBy_88 : decode cX12_findBy 88 = .ok (.aload_n 0, 1) := by decide +kernel
theorem dX12_findBy_89 : decode cX12_findBy 89 = .ok (.getfield 37, 3) := by decide +kernel
theorem dX12_findBy_92 : decode cX12_findBy 92 = .ok (.iload 6, 2) := by decide +kernel
theorem dX12_findBy_94 : decode cX12_findBy 94 = .ok (.baload, 1) := by decide +kernel
theorem dX12_findBy_95 : decode cX12_findBy 95 = .ok (.ifCond .eq 7, 3) := by decide +kernel
theorem dX12_findBy_98 : decode cX12_findBy 98 = .ok (.iconst 1, 1) := by decide +kernel
theorem dX12_findBy_99 : decode cX12_findBy 99 = .ok (.goto 4, 3) := by decide +kernel
theorem dX12_findBy_102 : decode cX12_findBy 102 = .ok (.iconst 0, 1) := by decide +kernel
theorem dX12_findBy_103 : decode cX12_findBy 103 = .ok (.istore 7, 2) := by decide +kernel
theorem dX12_findBy_105 : decode cX12_findBy 105 = .ok (.iload 4, 2) := by decide +kernel
theorem dX12_findBy_107 : decode cX12_findBy 107 = .ok (.iload 7, 2) := by decide +kernel
theorem dX12_findBy_109 : decode cX12_findBy 109 = .ok (.ifCond .eq 10, 3) := by decide +kernel
theorem dX12_findBy_112 : decode cX12_findBy 112 = .ok (.iconst 1, 1) := by decide +kernel
theorem dX12_findBy_113 : decode cX12_findBy 113 = .ok (.iload 5, 2) := by decide +kernel
theorem dX12_findBy_115 : decode cX12_findBy 115 = .ok (.ishl, 1) := by decide +kernel
theorem dX12_findBy_116 : decode cX12_findBy 116 = .ok (.goto 4, 3) := by decide +kernel
theorem dX12_findBy_119 : decode cX12_findBy 119 = .ok (.iconst 0, 1) := by decide +kernel
theorem dX12_findBy_120 : decode cX12_findBy 120 = .ok (.ior, 1) := by decide +kernel
theorem dX12_findBy_121 : decode cX12_findBy 121 = .ok (.istore 4, 2) := by decide +kernel
theorem dX12_findBy_123 : decode cX12_findBy 123 = .ok (.iload 7, 2) := by decide +kernel
theorem dX12_findBy_125 : decode cX12_findBy 125 = .ok (.ifCond .eq 8, 3) := by decide +kernel
theorem dX12_findBy_128 : decode cX12_findBy 128 = .ok (.iload 6, 2) := by decide +kernel
theorem dX12_findBy_130 : decode cX12_findBy 130 = .ok (.goto 8, 3) := by decide +kernel
theorem dX12_findBy_133 : decode cX12_findBy 133 = .ok (.iload_n 3, 1) := by decide +kernel
theorem dX12_findBy_134 : decode cX12_findBy 134 = .ok (.sipush 4200, 3) := by decide +kernel
theorem dX12_findBy_137 : decode cX12_findBy 137 = .ok (.iadd, 1) := by decide +kernel
theorem dX12_findBy_138 : decode cX12_findBy 138 = .ok (.istore_n 3, 1) := by decide +kernel
theorem dX12_findBy_139 : decode cX12_findBy 139 = .ok (.iinc 5 1, 3) := by decide +kernel
theorem dX12_findBy_142 : decode cX12_findBy 142 = .ok (.goto (-102), 3) := by decide +kernel
theorem dX12_findBy_145 : decode cX12_findBy 145 = .ok (.iload 4, 2) := by decide +kernel
theorem dX12_findBy_147 : decode cX12_findBy 147 = .ok (.ifCond .ne 7, 3) := by decide +kernel
theorem dX12_findBy_150 : decode cX12_findBy 150 = .ok (.iconst (-1), 1) := by decide +kernel
theorem dX12_findBy_151 : decode cX12_findBy 151 = .ok (.goto 5, 3) := by decide +kernel
theorem dX12_findBy_154 : decode cX12_findBy 154 = .ok (.iload 4, 2) := by decide +kernel
theorem dX12_findBy_156 : decode cX12_findBy 156 = .ok (.ireturn, 1) := by decide +kernel
theorem dX12_findRun_0 : decode cX12_findRun 0 = .ok (.iconst 0, 1) := by decide +kernel
theorem dX12_findRun_1 : decode cX12_findRun 1 = .ok (.istore_n 2, 1) := by decide +kernel
theorem dX12_findRun_2 : decode cX12_findRun 2 = .ok (.iload_n 2, 1) := by decide +kernel
theorem dX12_findRun_3 : decode cX12_findRun 3 = .ok (.aload_n 0, 1) := by decide +kernel
theorem dX12_findRun_4 : decode cX12_findRun 4 = .ok (.invokevirtual 141, 3) := by decide +kernel
theorem dX12_findRun_7 : decode cX12_findRun 7 = .ok (.if_icmp .ge 67, 3) := by decide +kernel
theorem dX12_findRun_10 : decode cX12_findRun 10 = .ok (.aload_n 0, 1) := by decide +kernel
theorem dX12_findRun_11 : decode cX12_findRun 11 = .ok (.invokevirtual 141, 3) := by decide +kernel
theorem dX12_findRun_14 : decode cX12_findRun 14 = .ok (.iload_n 2, 1) := by decide +kernel
theorem dX12_findRun_15 : decode cX12_findRun 15 = .ok (.isub, 1) := by decide +kernel
theorem dX12_findRun_16 : decode cX12_findRun 16 = .ok (.iload_n 1, 1) := by decide +kernel
theorem dX12_findRun_17 : decode cX12_findRun 17 = .ok (.if_icmp .ge 12, 3) := by decide +kernel
theorem dX12_findRun_20 : decode cX12_findRun 20 = .ok (.aload_n 0, 1) := by decide +kernel
theorem dX12_findRun_21 : decode cX12_findRun 21 = .ok (.invokevirtual 141, 3) := by decide +kernel
theorem dX12_findRun_24 : decode cX12_findRun 24 = .ok (.iload_n 2, 1) := by decide +kernel
theorem dX12_findRun_25 : decode cX12_findRun 25 = .ok (.isub, 1) := by decide +kernel
theorem dX12_findRun_26 : decode cX12_findRun 26 = .ok (.goto 4, 3) := by decide +kernel
theorem dX12_findRun_29 : decode cX12_findRun 29 = .ok (.iload_n 1, 1) := by decide +kernel
theorem dX12_findRun_30 : decode cX12_findRun 30 = .ok (.istore_n 3, 1) := by decide +kernel
theorem dX12_findRun_31 : decode cX12_findRun 31 = .ok (.iload_n 3, 1) := by decide +kernel
theorem dX12_findRun_32 : decode cX12_findRun 32 = .ok (.istore 4, 2) := by decide +kernel
theorem dX12_findRun_34 : decode cX12_findRun 34 = .ok (.iload 4, 2) := by decide +kernel
theorem dX12_findRun_36 : decode cX12_findRun 36 = .ok (.ifCond .le 32, 3) := by decide +kernel
theorem dX12_findRun_39 : decode cX12_findRun 39 = .ok (.iconst 1, 1) := by decide +kernel
theorem dX12_findRun_40 : decode cX12_findRun 40 = .ok (.iload 4, 2) := by decide +kernel
theorem dX12_findRun_42 : decode cX12_findRun 42 = .ok (.ishl, 1) := by decide +kernel
theorem dX12_findRun_43 : decode cX12_findRun 43 = .ok (.iconst 1, 1) := by decide +kernel
theorem dX12_findRun_44 : decode cX12_findRun 44 = .ok (.isub, 1) := by decide +kernel
theorem dX12_findRun_45 : decode cX12_findRun 45 = .ok (.iload_n 2, 1) := by decide +kernel
theorem dX12_findRun_46 : decode cX12_findRun 46 = .ok (.ishl, 1) := by decide +kernel
theorem dX12_findRun_47 : decode cX12_findRun 47 = .ok (.istore 5, 2) := by decide +kernel
theorem dX12_findRun_49 : decode cX12_findRun 49 = .ok (.aload_n 0, 1) := by decide +kernel
theorem dX12_findRun_50 : decode cX12_findRun 50 = .ok (.iload 5, 2) := by decide +kernel
theorem dX12_findRun_52 : decode cX12_findRun 52 = .ok (.iconst 0, 1) := by decide +kernel
theorem dX12_findRun_53 : decode cX12_findRun 53 = .ok (.invokevirtual 173, 3) := by decide +kernel
theorem dX12_findRun_56 : decode cX12_findRun 56 = .ok (.ifCond .ne 6, 3) := by decide +kernel
theorem dX12_findRun_59 : decode cX12_findRun 59 = .ok (.iload 5, 2) := by decide +kernel
theorem dX12_findRun_61 : decode cX12_findRun 61 = .ok (.ireturn, 1) := by decide +kernel
theorem dX12_findRun_62 : decode cX12_findRun 62 = .ok (.iinc 4 (-1), 3) := by decide +kernel
theorem dX12_findRun_65 : decode cX12_findRun 65 = .ok (.goto (-31), 3) := by decide +kernel
theorem dX12_findRun_68 : decode cX12_findRun 68 = .ok (.iinc 2 1, 3) := by decide +kernel
theorem dX12_findRun_71 : decode cX12_findRun 71 = .ok (.goto (-69), 3) := by decide +kernel
theorem dX12_findRun_74 : decode cX12_findRun 74 = .ok (.iconst (-1), 1) := by decide +kernel
theorem dX12_findRun_75 : decode cX12_findRun 75 = .ok (.ireturn, 1) := by decide +kernel
theorem dX12_find_0 : decode cX12_find 0 = .ok (.iload_n 1, 1) := by decide +kernel
theorem dX12_find_1 : decode cX12_find 1 = .ok (.invokestatic 193, 3) := by decide +kernel
theorem dX12_find_4 : decode cX12_find 4 = .ok (.ifCond .ne 6, 3) := by decide +kernel
theorem dX12_find_7 : decode cX12_find 7 = .ok (.bipush (-2), 2) := by decide +kernel
theorem dX12_find_9 : decode cX12_find 9 = .ok (.ireturn, 1) := by decide +kernel
theorem dX12_find_10 : decode cX12_find 10 = .ok (.iload_n 2, 1) := by decide +kernel
theorem dX12_find_11 : decode cX12_find 11 = .ok (.invokestatic 198, 3) := by decide +kernel
theorem dX12_find_14 : decode cX12_find 14 = .ok (.ifCond .ne 6, 3) := by decide +kernel
theorem dX12_find_17 : decode cX12_find 17 = .ok (.bipush (-3), 2) := by decide +kernel
theorem dX12_find_19 : decode cX12_find 19 = .ok (.ireturn, 1) := by decide +kernel
theorem dX12_find_20 : decode cX12_find 20 = .ok (.iload_n 1, 1) := by decide +kernel
theorem dX12_find_21 : decode cX12_find 21 = .ok (.iconst 2, 1) := by decide +kernel
theorem dX12_find_22 : decode cX12_find 22 = .ok (.if_icmp .ne 11, 3) := by decide +kernel
theorem dX12_find_25 : decode cX12_find 25 = .ok (.aload_n 0, 1) := by decide +kernel
theorem dX12_find_26 : decode cX12_find 26 = .ok (.iload_n 2, 1) := by decide +kernel
theorem dX12_find_27 : decode cX12_find 27 = .ok (.invokevirtual 215, 3) := by decide +kernel
theorem dX12_find_30 : decode cX12_find 30 = .ok (.goto 9, 3) := by decide +kernel
theorem dX12_find_33 : decode cX12_find 33 = .ok (.aload_n 0, 1) := by decide +kernel
theorem dX12_find_34 : decode cX12_find 34 = .ok (.iload_n 1, 1) := by decide +kernel
theorem dX12_find_35 : decode cX12_find 35 = .ok (.iload_n 2, 1) := by decide +kernel
theorem dX12_find_36 : decode cX12_find 36 = .ok (.invokevirtual 218, 3) := by decide +kernel
theorem dX12_find_39 : decode cX12_find 39 = .ok (.ireturn, 1) := by decide +kernel
theorem dX12_layWays_0 : decode cX12_layWays 0 = .ok (.aload_n 0, 1) := by decide +kernel
theorem dX12_layWays_1 : decode cX12_layWays 1 = .ok (.invokevirtual 141, 3) := by decide +kernel
theorem dX12_layWays_4 : decode cX12_layWays 4 = .ok (.istore_n 1, 1) := by decide +kernel
theorem dX12_layWays_5 : decode cX12_layWays 5 = .ok (.aload_n 0, 1) := by decide +kernel
theorem dX12_layWays_6 : decode cX12_layWays 6 = .ok (.invokevirtual 157, 3) := by decide +kernel
theorem dX12_layWays_9 : decode cX12_layWays 9 = .ok (.istore_n 2, 1) := by decide +kernel
theorem dX12_layWays_10 : decode cX12_layWays 10 = .ok (.iconst 0, 1) := by decide +kernel
theorem dX12_layWays_11 : decode cX12_layWays 11 = .ok (.istore_n 3, 1) := by decide +kernel
theorem dX12_layWays_12 : decode cX12_layWays 12 = .ok (.iload_n 3, 1) := by decide +kernel
theorem dX12_layWays_13 : decode cX12_layWays 13 = .ok (.sipush 210, 3) := by decide +kernel
theorem dX12_layWays_16 : decode cX12_layWays 16 = .ok (.if_icmp .ge 30, 3) := by decide +kernel
theorem dX12_layWays_19 : decode cX12_layWays 19 = .ok (.aload_n 0, 1) := by decide +kernel
theorem dX12_layWays_20 : decode cX12_layWays 20 = .ok (.getfield 40, 3) := by decide +kernel
theorem dX12_layWays_23 : decode cX12_layWays 23 = .ok (.sipush 210, 3) := by decide +kernel
theorem dX12_layWays_26 : decode cX12_layWays 26 = .ok (.iload_n 1, 1) := by decide +kernel
theorem dX12_layWays_27 : decode cX12_layWays 27 = .ok (.imul, 1) := by decide +kernel
theorem dX12_layWays_28 : decode cX12_layWays 28 = .ok (.iload_n 3, 1) := by decide +kernel
theorem dX12_layWays_29 : decode cX12_layWays 29 = .ok (.iadd, 1) := by decide +kernel
theorem dX12_layWays_30 : decode cX12_layWays 30 = .ok (.iload_n 3, 1) := by decide +kernel
theorem dX12_layWays_31 : decode cX12_layWays 31 = .ok (.ifCond .ne 7, 3) := by decide +kernel
theorem dX12_layWays_34 : decode cX12_layWays 34 = .ok (.iconst 1, 1) := by decide +kernel
theorem dX12_layWays_35 : decode cX12_layWays 35 = .ok (.goto 4, 3) := by decide +kernel
theorem dX12_layWays_38 : decode cX12_layWays 38 = .ok (.iconst 0, 1) := by decide +kernel
theorem dX12_layWays_39 : decode cX12_layWays 39 = .ok (.iastore, 1) := by decide +kernel
theorem dX12_layWays_40 : decode cX12_layWays 40 = .ok (.iinc 3 1, 3) := by decide +kernel
theorem dX12_layWays_43 : decode cX12_layWays 43 = .ok (.goto (-31), 3) := by decide +kernel
theorem dX12_layWays_46 : decode cX12_layWays 46 = .ok (.iload_n 1, 1) := by decide +kernel
theorem dX12_layWays_47 : decode cX12_layWays 47 = .ok (.iconst 1, 1) := by decide +kernel
theorem dX12_layWays_48 : decode cX12_layWays 48 = .ok (.isub, 1) := by decide +kernel
theorem dX12_layWays_49 : decode cX12_layWays 49 = .ok (.istore_n 3, 1) := by decide +kernel
theorem dX12_layWays_50 : decode cX12_layWays 50 = .ok (.iload_n 3, 1) := by decide +kernel
theorem dX12_layWays_51 : decode cX12_layWays 51 = .ok (.ifCond .lt 127, 3) := by decide +kernel
theorem dX12_layWays_54 : decode cX12_layWays 54 = .ok (.iconst 0, 1) := by decide +kernel
theorem dX12_layWays_55 : decode cX12_layWays 55 = .ok (.istore 4, 2) := by decide +kernel
theorem dX12_layWays_57 : decode cX12_layWays 57 = .ok (.iload 4, 2) := by decide +kernel
theorem dX12_layWays_59 : decode cX12_layWays 59 = .ok (.bipush 21, 2) := by decide +kernel
theorem dX12_layWays_61 : decode cX12_layWays 61 = .ok (.if_icmp .ge 111, 3) := by decide +kernel
theorem dX12_layWays_64 : decode cX12_layWays 64 = .ok (.iconst 0, 1) := by decide +kernel
theorem dX12_layWays_65 : decode cX12_layWays 65 = .ok (.istore 5, 2) := by decide +kernel
theorem dX12_layWays_67 : decode cX12_layWays 67 = .ok (.iload 5, 2) := by decide +kernel
theorem dX12_layWays_69 : decode cX12_layWays 69 = .ok (.iload_n 2, 1) := by decide +kernel
theorem dX12_layWays_70 : decode cX12_layWays 70 = .ok (.if_icmp .ge 96, 3) := by decide +kernel
theorem dX12_layWays_73 : decode cX12_layWays 73 = .ok (.iload 4, 2) := by decide +kernel
theorem dX12_layWays_75 : decode cX12_layWays 75 = .ok (.ifCond .ne 7, 3) := by decide +kernel
theorem dX12_layWays_78 : decode cX12_layWays 78 = .ok (.iconst 0, 1) := by decide +kernel
theorem dX12_layWays_79 : decode cX12_layWays 79 = .ok (.goto 36, 3) := by decide +kernel
theorem dX12_layWays_82 : decode cX12_layWays 82 = .ok (.aload_n 0, 1) := by decide +kernel
theorem dX12_layWays_83 : decode cX12_layWays 83 = .ok (.getfield 40, 3) := by decide +kernel
theorem dX12_layWays_86 : decode cX12_layWays 86 = .ok (.sipush 210, 3) := by decide +kernel
theorem dX12_layWays_89 : decode cX12_layWays 89 = .ok (.iload_n 3, 1) := by decide +kernel
theorem dX12_layWays_90 : decode cX12_layWays 90 = .ok (.iconst 1, 1) := by decide +kernel
theorem dX12_layWays_91 : decode cX12_layWays 91 = .ok (.iadd, 1) := by decide +kernel
theorem dX12_layWays_92 : decode cX12_layWays 92 = .ok (.imul, 1) := by decide +kernel
theorem dX12_layWays_93 : decode cX12_layWays 93 = .ok (.bipush 10, 2) := by decide +kernel
theorem dX12_layWays_95 : decode cX12_layWays 95 = .ok (.iload 4, 2) := by decide +kernel
theorem dX12_layWays_97 : decode cX12_layWays 97 = .ok (.iconst 1, 1) := by decide +kernel
theorem dX12_layWays_98 : decode cX12_layWays 98 = .ok (.isub, 1) := by decide +kernel
theorem dX12_layWays_99 : decode cX12_layWays 99 = .ok (.imul, 1) := by decide +kernel
theorem dX12_layWays_100 : decode cX12_layWays 100 = .ok (.iadd, 1) := by decide +kernel
theorem dX12_layWays_101 : decode cX12_layWays 101 = .ok (.iload 5, 2) := by decide +kernel
theorem dX12_layWays_103 : decode cX12_layWays 103 = .ok (.iload_n 2, 1) := by decide +kernel
theorem dX12_layWays_104 : decode cX12_layWays 104 = .ok (.iadd, 1) := by decide +kernel
theorem dX12_layWays_105 : decode cX12_layWays 105 = .ok (.aload_n 0, 1) := by decide +kernel
theorem dX12_layWays_106 : decode cX12_layWays 106 = .ok (.iload_n 3, 1) := by decide +kernel
theorem dX12_layWays_107 : decode cX12_layWays 107 = .ok (.invokevirtual 162, 3) := by decide +kernel
theorem dX12_layWays_110 : decode cX12_layWays 110 = .ok (.isub, 1) := by decide +kernel
theorem dX12_layWays_111 : decode cX12_layWays 111 = .ok (.iload_n 2, 1) := by decide +kernel
theorem dX12_layWays_112 : decode cX12_layWays 112 = .ok (.irem, 1) := by decide +kernel
theorem dX12_layWays_113 : decode cX12_layWays 113 = .ok (.iadd, 1) := by decide +kernel
theorem dX12_layWays_114 : decode cX12_layWays 114 = .ok (.iaload, 1) := by decide +kernel
theorem dX12_layWays_115 : decode cX12_layWays 115 = .ok (.istore 6, 2) := by decide +kernel
theorem dX12_layWays_117 : decode cX12_layWays 117 = .ok (.aload_n 0, 1) := by decide +kernel
theorem dX12_layWays_118 : decode cX12_layWays 118 = .ok (.getfield 40, 3) := by decide +kernel
theorem dX12_layWays_121 : decode cX12_layWays 121 = .ok (.sipush 210, 3) := by decide +kernel
theorem dX12_layWays_124 : decode cX12_layWays 124 = .ok (.iload_n 3, 1) := by decide +kernel
theorem dX12_layWays_125 : decode cX12_layWays 125 = .ok (.imul, 1) := by decide +kernel
theorem dX12_layWays_126 : decode cX12_layWays 126 = .ok (.bipush 10, 2) := by decide +kernel
theorem dX12_layWays_128 : decode cX12_layWays 128 = .ok (.iload 4, 2) := by decide +kernel
theorem dX12_layWays_130 : decode cX12_layWays 130 = .ok (.imul, 1) := by decide +kernel
theorem dX12_layWays_131 : decode cX12_layWays 131 = .ok (.iadd, 1) := by decide +kernel
theorem dX12_layWays_132 : decode cX12_layWays 132 = .ok (.iload 5, 2) := by decide +kernel
theorem dX12_layWays_134 : decode cX12_layWays 134 = .ok (.iadd, 1) := by decide +kernel
theorem dX12_layWays_135 : decode cX12_layWays 135 = .ok (.aload_n 0, 1) := by decide +kernel
theorem dX12_layWays_136 : decode cX12_layWays 136 = .ok (.getfield 40, 3) := by decide +kernel
theorem dX12_layWays_139 : decode cX12_layWays 139 = .ok (.sipush 210, 3) := by decide +kernel
theorem dX12_layWays_142 : decode cX12_layWays 142 = .ok (.iload_n 3, 1) := by decide +kernel
theorem dX12_layWays_143 : decode cX12_layWays 143 = .ok (.iconst 1, 1) := by decide +kernel
theorem dX12_layWays_144 : decode cX12_layWays 144 = .ok (.iadd, 1) := by decide +kernel
theorem dX12_layWays_145 : decode cX12_layWays 145 = .ok (.imul, 1) := by decide +kernel
theorem dX12_layWays_146 : decode cX12_layWays 146 = .ok (.bipush 10, 2) := by decide +kernel
theorem dX12_layWays_148 : decode cX12_layWays 148 = .ok (.iload 4, 2) := by decide +kernel
theorem dX12_layWays_150 : decode cX12_layWays 150 = .ok (.imul, 1) := by decide +kernel
theorem dX12_layWays_151 : decode cX12_layWays 151 = .ok (.iadd, 1) := by decide +kernel
theorem dX12_layWays_152 : decode cX12_layWays 152 = .ok (.iload 5, 2) := by decide +kernel
theorem dX12_layWays_154 : decode cX12_layWays 154 = .ok (.iadd, 1) := by decide +kernel
theorem dX12_layWays_155 : decode cX12_layWays 155 = .ok (.iaload, 1) := by decide +kernel
theorem dX12_layWays_156 : decode cX12_layWays 156 = .ok (.iload 6, 2) := by decide +kernel
theorem dX12_layWays_158 : decode cX12_layWays 158 = .ok (.iadd, 1) := by decide +kernel
theorem dX12_layWays_159 : decode cX12_layWays 159 = .ok (.iastore, 1) := by decide +kernel
theorem dX12_layWays_160 : decode cX12_layWays 160 = .ok (.iinc 5 1, 3) := by decide +kernel
theorem dX12_layWays_163 : decode cX12_layWays 163 = .ok (.goto (-96), 3) := by decide +kernel
theorem dX12_layWays_166 : decode cX12_layWays 166 = .ok (.iinc 4 1, 3) := by decide +kernel
theorem dX12_layWays_169 : decode cX12_layWays 169 = .ok (.goto (-112), 3) := by decide +kernel
theorem dX12_layWays_172 : decode cX12_layWays 172 = .ok (.iinc 3 (-1), 3) := by decide +kernel
theorem dX12_layWays_175 : decode cX12_layWays 175 = .ok (.goto (-125), 3) := by decide +kernel
theorem dX12_layWays_178 : decode cX12_layWays 178 = .ok (.return_, 1) := by decide +kernel
theorem dX12_many_0 : decode cX12_many 0 = .ok (.iload_n 1, 1) := by decide +kernel
theorem dX12_many_1 : decode cX12_many 1 = .ok (.i2l, 1) := by decide +kernel
theorem dX12_many_2 : decode cX12_many 2 = .ok (.ldc2_w 104, 3) := by decide +kernel
theorem dX12_many_5 : decode cX12_many 5 = .ok (.ldc2_w 180, 3) := by decide +kernel
theorem dX12_many_8 : decode cX12_many 8 = .ok (.invokestatic 69, 3) := by decide +kernel
theorem dX12_many_11 : decode cX12_many 11 = .ok (.ifCond .eq 19, 3) := by decide +kernel
theorem dX12_many_14 : decode cX12_many 14 = .ok (.iload_n 2, 1) := by decide +kernel
theorem dX12_many_15 : decode cX12_many 15 = .ok (.i2l, 1) := by decide +kernel
theorem dX12_many_16 : decode cX12_many 16 = .ok (.lconst 0, 1) := by decide +kernel
theorem dX12_many_17 : decode cX12_many 17 = .ok (.aload_n 0, 1) := by decide +kernel
theorem dX12_many_18 : decode cX12_many 18 = .ok (.invokevirtual 157, 3) := by decide +kernel
theorem dX12_many_21 : decode cX12_many 21 = .ok (.iconst 1, 1) := by decide +kernel
theorem dX12_many_22 : decode cX12_many 22 = .ok (.isub, 1) := by decide +kernel
theorem dX12_many_23 : decode cX12_many 23 = .ok (.i2l, 1) := by decide +kernel
theorem dX12_many_24 : decode cX12_many 24 = .ok (.invokestatic 69, 3) := by decide +kernel
theorem dX12_many_27 : decode cX12_many 27 = .ok (.ifCond .ne 6, 3) := by decide +kernel
theorem dX12_many_30 : decode cX12_many 30 = .ok (.bipush (-3), 2) := by decide +kernel
theorem dX12_many_32 : decode cX12_many 32 = .ok (.ireturn, 1) := by decide +kernel
theorem dX12_many_33 : decode cX12_many 33 = .ok (.aload_n 0, 1) := by decide +kernel
theorem dX12_many_34 : decode cX12_many 34 = .ok (.invokevirtual 222, 3) := by decide +kernel
theorem dX12_many_37 : decode cX12_many 37 = .ok (.iconst 0, 1) := by decide +kernel
theorem dX12_many_38 : decode cX12_many 38 = .ok (.istore_n 3, 1) := by decide +kernel
theorem dX12_many_39 : decode cX12_many 39 = .ok (.iconst 0, 1) := by decide +kernel
theorem dX12_many_40 : decode cX12_many 40 = .ok (.istore 4, 2) := by decide +kernel
theorem dX12_many_42 : decode cX12_many 42 = .ok (.iload 4, 2) := by decide +kernel
theorem dX12_many_44 : decode cX12_many 44 = .ok (.bipush 21, 2) := by decide +kernel
theorem dX12_many_46 : decode cX12_many 46 = .ok (.if_icmp .ge 39, 3) := by decide +kernel
theorem dX12_many_49 : decode cX12_many 49 = .ok (.iload_n 3, 1) := by decide +kernel
theorem dX12_many_50 : decode cX12_many 50 = .ok (.iload_n 1, 1) := by decide +kernel
theorem dX12_many_51 : decode cX12_many 51 = .ok (.iconst (-1), 1) := by decide +kernel
theorem dX12_many_52 : decode cX12_many 52 = .ok (.if_icmp .eq 9, 3) := by decide +kernel
theorem dX12_many_55 : decode cX12_many 55 = .ok (.iload_n 1, 1) := by decide +kernel
theorem dX12_many_56 : decode cX12_many 56 = .ok (.iload 4, 2) := by decide +kernel
theorem dX12_many_58 : decode cX12_many 58 = .ok (.if_icmp .ne 18, 3) := by decide +kernel
theorem dX12_many_61 : decode cX12_many 61 = .ok (.aload_n 0, 1) := by decide +kernel
theorem dX12_many_62 : decode cX12_many 62 = .ok (.getfield 40, 3) := by decide +kernel
theorem dX12_many_65 : decode cX12_many 65 = .ok (.bipush 10, 2) := by decide +kernel
theorem dX12_many_67 : decode cX12_many 67 = .ok (.iload 4, 2) := by decide +kernel
theorem dX12_many_69 : decode cX12_many 69 = .ok (.imul, 1) := by decide +kernel
theorem dX12_many_70 : decode cX12_many 70 = .ok (.iload_n 2, 1) := by decide +kernel
theorem dX12_many_71 : decode cX12_many 71 = .ok (.iadd, 1) := by decide +kernel
theorem dX12_many_72 : decode cX12_many 72 = .ok (.iaload, 1) := by decide +kernel
theorem dX12_many_73 : decode cX12_many 73 = .ok (.goto 4, 3) := by decide +kernel
theorem dX12_many_76 : decode cX12_many 76 = .ok (.iconst 0, 1) := by decide +kernel
theorem dX12_many_77 : decode cX12_many 77 = .ok (.iadd, 1) := by decide +kernel
theorem dX12_many_78 : decode cX12_many 78 = .ok (.istore_n 3, 1) := by decide +kernel
theorem dX12_many_79 : decode cX12_many 79 = .ok (.iinc 4 1, 3) := by decide +kernel
theorem dX12_many_82 : decode cX12_many 82 = .ok (.goto (-40), 3) := by decide +kernel
theorem dX12_many_85 : decode cX12_many 85 = .ok (.iload_n 3, 1) := by decide +kernel
theorem dX12_many_86 : decode cX12_many 86 = .ok (.ireturn, 1) := by decide +kernel
theorem dX12_ownOf_0 : decode cX12_ownOf 0 = .ok (.iload_n 2, 1) := by decide +kernel
theorem dX12_ownOf_1 : decode cX12_ownOf 1 = .ok (.ifCond .eq 17, 3) := by decide +kernel
theorem dX12_ownOf_4 : decode cX12_ownOf 4 = .ok (.aload_n 0, 1) := by decide +kernel
theorem dX12_ownOf_5 : decode cX12_ownOf 5 = .ok (.getfield 13, 3) := by decide +kernel
theorem dX12_ownOf_8 : decode cX12_ownOf 8 = .ok (.iconst 3, 1) := by decide +kernel
theorem dX12_ownOf_9 : decode cX12_ownOf 9 = .ok (.iload_n 1, 1) := by decide +kernel
theorem dX12_ownOf_10 : decode cX12_ownOf 10 = .ok (.imul, 1) := by decide +kernel
theorem dX12_ownOf_11 : decode cX12_ownOf 11 = .ok (.iconst 2, 1) := by decide +kernel
theorem dX12_ownOf_12 : decode cX12_ownOf 12 = .ok (.iadd, 1) := by decide +kernel
theorem dX12_ownOf_13 : decode cX12_ownOf 13 = .ok (.iaload, 1) := by decide +kernel
theorem dX12_ownOf_14 : decode cX12_ownOf 14 = .ok (.i2l, 1) := by decide +kernel
theorem dX12_ownOf_15 : decode cX12_ownOf 15 = .ok (.goto 9, 3) := by decide +kernel
theorem dX12_ownOf_18 : decode cX12_ownOf 18 = .ok (.aload_n 0, 1) := by decide +kernel
theorem dX12_ownOf_19 : decode cX12_ownOf 19 = .ok (.getfield 7, 3) := by decide +kernel
theorem dX12_ownOf_22 : decode cX12_ownOf 22 = .ok (.iload_n 1, 1) := by decide +kernel
theorem dX12_ownOf_23 : decode cX12_ownOf 23 = .ok (.laload, 1) := by decide +kernel
theorem dX12_ownOf_24 : decode cX12_ownOf 24 = .ok (.lreturn, 1) := by decide +kernel
theorem dX12_layLeast_0 : decode cX12_layLeast 0 = .ok (.aload_n 0, 1) := by decide +kernel
theorem dX12_layLeast_1 : decode cX12_layLeast 1 = .ok (.invokevirtual 141, 3) := by decide +kernel
theorem dX12_layLeast_4 : decode cX12_layLeast 4 = .ok (.istore_n 2, 1) := by decide +kernel
theorem dX12_layLeast_5 : decode cX12_layLeast 5 = .ok (.aload_n 0, 1) := by decide +kernel
theorem dX12_layLeast_6 : decode cX12_layLeast 6 = .ok (.invokevirtual 157, 3) := by decide +kernel
theorem dX12_layLeast_9 : decode cX12_layLeast 9 = .ok (.istore_n 3, 1) := by decide +kernel
theorem dX12_layLeast_10 : decode cX12_layLeast 10 = .ok (.iconst 0, 1) := by decide +kernel
theorem dX12_layLeast_11 : decode cX12_layLeast 11 = .ok (.istore 4, 2) := by decide +kernel
theorem dX12_layLeast_13 : decode cX12_layLeast 13 = .ok (.iload 4, 2) := by decide +kernel
theorem dX12_layLeast_15 : decode cX12_layLeast 15 = .ok (.sipush 210, 3) := by decide +kernel
theorem dX12_layLeast_18 : decode cX12_layLeast 18 = .ok (.if_icmp .ge 34, 3) := by decide +kernel
theorem dX12_layLeast_21 : decode cX12_layLeast 21 = .ok (.aload_n 0, 1) := by decide +kernel
theorem dX12_layLeast_22 : decode cX12_layLeast 22 = .ok (.getfield 43, 3) := by decide +kernel
theorem dX12_layLeast_25 : decode cX12_layLeast 25 = .ok (.sipush 210, 3) := by decide +kernel
theorem dX12_layLeast_28 : decode cX12_layLeast 28 = .ok (.iload_n 2, 1) := by decide +kernel
theorem dX12_layLeast_29 : decode cX12_layLeast 29 = .ok (.imul, 1) := by decide +kernel
theorem dX12_layLeast_30 : decode cX12_layLeast 30 = .ok (.iload 4, 2) := by decide +kernel
theorem dX12_layLeast_32 : decode cX12_layLeast 32 = .ok (.iadd, 1) := by decide +kernel
theorem dX12_layLeast_33 : decode cX12_layLeast 33 = .ok (.iload 4, 2) := by decide +kernel
theorem dX12_layLeast_35 : decode cX12_layLeast 35 = .ok (.ifCond .ne 7, 3) := by decide +kernel
theorem dX12_layLeast_38 : decode cX12_layLeast 38 = .ok (.lconst 0, 1) := by decide +kernel
theorem dX12_layLeast_39 : decode cX12_layLeast 39 = .ok (.goto 6, 3) := by decide +kernel
theorem dX12_layLeast_42 : decode cX12_layLeast 42 = .ok (.ldc2_w 225, 3) := by decide +kernel
theorem dX12_layLeast_45 : decode cX12_layLeast 45 = .ok (.lastore, 1) := by decide +kernel
theorem dX12_layLeast_46 : decode cX12_layLeast 46 = .ok (.iinc 4 1, 3) := by decide +kernel
theorem dX12_layLeast_49 : decode cX12_layLeast 49 = .ok (.goto (-36), 3) := by decide +kernel
theorem dX12_layLeast_52 : decode cX12_layLeast 52 = .ok (.iload_n 2, 1) := by decide +kernel
theorem dX12_layLeast_53 : decode cX12_layLeast 53 = .ok (.iconst 1, 1) := by decide +kernel
theorem dX12_layLeast_54 : decode cX12_layLeast 54 = .ok (.isub, 1) := by decide +kernel
theorem dX12_layLeast_55 : decode cX12_layLeast 55 = .ok (.istore 4, 2) := by decide +kernel
theorem dX12_layLeast_57 : decode cX12_layLeast 57 = .ok (.iload 4, 2) := by decide +kernel
theorem dX12_layLeast_59 : decode cX12_layLeast 59 = .ok (.ifCond .lt 112, 3) := by decide +kernel
theorem dX12_layLeast_62 : decode cX12_layLeast 62 = .ok (.iconst 0, 1) := by decide +kernel
theorem dX12_layLeast_63 : decode cX12_layLeast 63 = .ok (.istore 5, 2) := by decide +kernel
theorem dX12_layLeast_65 : decode cX12_layLeast 65 = .ok (.iload 5, 2) := by decide +kernel
theorem dX12_layLeast_67 : decode cX12_layLeast 67 = .ok (.bipush 21, 2) := by decide +kernel
theorem dX12_layLeast_69 : decode cX12_layLeast 69 = .ok (.if_icmp .ge 96, 3) := by decide +kernel
theorem dX12_layLeast_72 : decode cX12_layLeast 72 = .ok (.iconst 0, 1) := by decide +kernel
theorem dX12_layLeast_73 : decode cX12_layLeast 73 = .ok (.istore 6, 2) := by decide +kernel
theorem dX12_layLeast_75 : decode cX12_layLeast 75 = .ok (.iload 6, 2) := by decide +kernel
theorem dX12_layLeast_77 : decode cX12_layLeast 77 = .ok (.iload_n 3, 1) := by decide +kernel
theorem dX12_layLeast_78 : decode cX12_layLeast 78 = .ok (.if_icmp .ge 81, 3) := by decide +kernel
theorem dX12_layLeast_81 : decode cX12_layLeast 81 = .ok (.aload_n 0, 1) := by decide +kernel
theorem dX12_layLeast_82 : decode cX12_layLeast 82 = .ok (.getfield 43, 3) := by decide +kernel
theorem dX12_layLeast_85 : decode cX12_layLeast 85 = .ok (.sipush 210, 3) := by decide +kernel
theorem dX12_layLeast_88 : decode cX12_layLeast 88 = .ok (.iload 4, 2) := by decide +kernel
theorem dX12_layLeast_90 : decode cX12_layLeast 90 = .ok (.iconst 1, 1) := by decide +kernel
theorem dX12_layLeast_91 : decode cX12_layLeast 91 = .ok (.iadd, 1) := by decide +kernel
theorem dX12_layLeast_92 : decode cX12_layLeast 92 = .ok (.imul, 1) := by decide +kernel
theorem dX12_layLeast_93 : decode cX12_layLeast 93 = .ok (.bipush 10, 2) := by decide +kernel
theorem dX12_layLeast_95 : decode cX12_layLeast 95 = .ok (.iload 5, 2) := by decide +kernel
theorem dX12_layLeast_97 : decode cX12_layLeast 97 = .ok (.imul, 1) := by decide +kernel
theorem dX12_layLeast_98 : decode cX12_layLeast 98 = .ok (.iadd, 1) := by decide +kernel
theorem dX12_layLeast_99 : decode cX12_layLeast 99 = .ok (.iload 6, 2) := by decide +kernel
theorem dX12_layLeast_101 : decode cX12_layLeast 101 = .ok (.iadd, 1) := by decide +kernel
theorem dX12_layLeast_102 : decode cX12_layLeast 102 = .ok (.laload, 1) := by decide +kernel
theorem dX12_layLeast_103 : decode cX12_layLeast 103 = .ok (.lstore 7, 2) := by decide +kernel
theorem dX12_layLeast_105 : decode cX12_layLeast 105 = .ok (.aload_n 0, 1) := by decide +kernel
theorem dX12_layLeast_106 : decode cX12_layLeast 106 = .ok (.iload 4, 2) := by decide +kernel
theorem dX12_layLeast_108 : decode cX12_layLeast 108 = .ok (.iload 5, 2) := by decide +kernel
theorem dX12_layLeast_110 : decode cX12_layLeast 110 = .ok (.iload 6, 2) := by decide +kernel
theorem dX12_layLeast_112 : decode cX12_layLeast 112 = .ok (.iload_n 1, 1) := by decide +kernel
theorem dX12_layLeast_113 : decode cX12_layLeast 113 = .ok (.invokevirtual 227, 3) := by decide +kernel
theorem dX12_layLeast_116 : decode cX12_layLeast 116 = .ok (.lstore 9, 2) := by decide +kernel
theorem dX12_layLeast_118 : decode cX12_layLeast 118 = .ok (.aload_n 0, 1) := by decide +kernel
theorem dX12_layLeast_119 : decode cX12_layLeast 119 = .ok (.getfield 43, 3) := by decide +kernel
theorem dX12_layLeast_122 : decode cX12_layLeast 122 = .ok (.sipush 210, 3) := by decide +kernel
theorem dX12_layLeast_125 : decode cX12_layLeast 125 = .ok (.iload 4, 2) := by decide +kernel
theorem dX12_layLeast_127 : decode cX12_layLeast 127 = .ok (.imul, 1) := by decide +kernel
theorem dX12_layLeast_128 : decode cX12_layLeast 128 = .ok (.bipush 10, 2) := by decide +kernel
theorem dX12_layLeast_130 : decode cX12_layLeast 130 = .ok (.iload 5, 2) := by decide +kernel
theorem dX12_layLeast_132 : decode cX12_layLeast 132 = .ok (.imul, 1) := by decide +kernel
theorem dX12_layLeast_133 : decode cX12_layLeast 133 = .ok (.iadd, 1) := by decide +kernel
theorem dX12_layLeast_134 : decode cX12_layLeast 134 = .ok (.iload 6, 2) := by decide +kernel
theorem dX12_layLeast_136 : decode cX12_layLeast 136 = .ok (.iadd, 1) := by decide +kernel
theorem dX12_layLeast_137 : decode cX12_layLeast 137 = .ok (.lload 9, 2) := by decide +kernel
theorem dX12_layLeast_139 : decode cX12_layLeast 139 = .ok (.lload 7, 2) := by decide +kernel
theorem dX12_layLeast_141 : decode cX12_layLeast 141 = .ok (.lcmp, 1) := by decide +kernel
theorem dX12_layLeast_142 : decode cX12_layLeast 142 = .ok (.ifCond .ge 8, 3) := by decide +kernel
theorem dX12_layLeast_145 : decode cX12_layLeast 145 = .ok (.lload 9, 2) := by decide +kernel
theorem dX12_layLeast_147 : decode cX12_layLeast 147 = .ok (.goto 5, 3) := by decide +kernel
theorem dX12_layLeast_150 : decode cX12_layLeast 150 = .ok (.lload 7, 2) := by decide +kernel
theorem dX12_layLeast_152 : decode cX12_layLeast 152 = .ok (.lastore, 1) := by decide +kernel
theorem dX12_layLeast_153 : decode cX12_layLeast 153 = .ok (.iinc 6 1, 3) := by decide +kernel
theorem dX12_layLeast_156 : decode cX12_layLeast 156 = .ok (.goto (-81), 3) := by decide +kernel
theorem dX12_layLeast_159 : decode cX12_layLeast 159 = .ok (.iinc 5 1, 3) := by decide +kernel
theorem dX12_layLeast_162 : decode cX12_layLeast 162 = .ok (.goto (-97), 3) := by decide +kernel
theorem dX12_layLeast_165 : decode cX12_layLeast 165 = .ok (.iinc 4 (-1), 3) := by decide +kernel
theorem dX12_layLeast_168 : decode cX12_layLeast 168 = .ok (.goto (-111), 3) := by decide +kernel
theorem dX12_layLeast_171 : decode cX12_layLeast 171 = .ok (.return_, 1) := by decide +kernel
theorem dX12_withOf_0 : decode cX12_withOf 0 = .ok (.aload_n 0, 1) := by decide +kernel
theorem dX12_withOf_1 : decode cX12_withOf 1 = .ok (.invokevirtual 157, 3) := by decide +kernel
theorem dX12_withOf_4 : decode cX12_withOf 4 = .ok (.istore 5, 2) := by decide +kernel
theorem dX12_withOf_6 : decode cX12_withOf 6 = .ok (.iload_n 2, 1) := by decide +kernel
theorem dX12_withOf_7 : decode cX12_withOf 7 = .ok (.ifCond .ne 9, 3) := by decide +kernel
theorem dX12_withOf_10 : decode cX12_withOf 10 = .ok (.ldc2_w 225, 3) := by decide +kernel
theorem dX12_withOf_13 : decode cX12_withOf 13 = .ok (.goto 36, 3) := by decide +kernel
theorem dX12_withOf_16 : decode cX12_withOf 16 = .ok (.aload_n 0, 1) := by decide +kernel
theorem dX12_withOf_17 : decode cX12_withOf 17 = .ok (.getfield 43, 3) := by decide +kernel
theorem dX12_withOf_20 : decode cX12_withOf 20 = .ok (.sipush 210, 3) := by decide +kernel
theorem dX12_withOf_23 : decode cX12_withOf 23 = .ok (.iload_n 1, 1) := by decide +kernel
theorem dX12_withOf_24 : decode cX12_withOf 24 = .ok (.iconst 1, 1) := by decide +kernel
theorem dX12_withOf_25 : decode cX12_withOf 25 = .ok (.iadd, 1) := by decide +kernel
theorem dX12_withOf_26 : decode cX12_withOf 26 = .ok (.imul, 1) := by decide +kernel
theorem dX12_withOf_27 : decode cX12_withOf 27 = .ok (.bipush 10, 2) := by decide +kernel
theorem dX12_withOf_29 : decode cX12_withOf 29 = .ok (.iload_n 2, 1) := by decide +kernel
theorem dX12_withOf_30 : decode cX12_withOf 30 = .ok (.iconst 1, 1) := by decide +kernel
theorem dX12_withOf_31 : decode cX12_withOf 31 = .ok (.isub, 1) := by decide +kernel
theorem dX12_withOf_32 : decode cX12_withOf 32 = .ok (.imul, 1) := by decide +kernel
theorem dX12_withOf_33 : decode cX12_withOf 33 = .ok (.iadd, 1) := by decide +kernel
theorem dX12_withOf_34 : decode cX12_withOf 34 = .ok (.iload_n 3, 1) := by decide +kernel
theorem dX12_withOf_35 : decode cX12_withOf 35 = .ok (.iload 5, 2) := by decide +kernel
theorem dX12_withOf_37 : decode cX12_withOf 37 = .ok (.iadd, 1) := by decide +kernel
theorem dX12_withOf_38 : decode cX12_withOf 38 = .ok (.aload_n 0, 1) := by decide +kernel
theorem dX12_withOf_39 : decode cX12_withOf 39 = .ok (.iload_n 1, 1) := by decide +kernel
theorem dX12_withOf_40 : decode cX12_withOf 40 = .ok (.invokevirtual 162, 3) := by decide +kernel
theorem dX12_withOf_43 : decode cX12_withOf 43 = .ok (.isub, 1) := by decide +kernel
theorem dX12_withOf_44 : decode cX12_withOf 44 = .ok (.iload 5, 2) := by decide +kernel
theorem dX12_withOf_46 : decode cX12_withOf 46 = .ok (.irem, 1) := by decide +kernel
theorem dX12_withOf_47 : decode cX12_withOf 47 = .ok (.iadd, 1) := by decide +kernel
theorem dX12_withOf_48 : decode cX12_withOf 48 = .ok (.laload, 1) := by decide +kernel
theorem dX12_withOf_49 : decode cX12_withOf 49 = .ok (.lstore 6, 2) := by decide +kernel
theorem dX12_withOf_51 : decode cX12_withOf 51 = .ok (.lload 6, 2) := by decide +kernel
theorem dX12_withOf_53 : decode cX12_withOf 53 = .ok (.ldc2_w 225, 3) := by decide +kernel
theorem dX12_withOf_56 : decode cX12_withOf 56 = .ok (.lcmp, 1) := by decide +kernel
theorem dX12_withOf_57 : decode cX12_withOf 57 = .ok (.ifCond .ne 9, 3) := by decide +kernel
theorem dX12_withOf_60 : decode cX12_withOf 60 = .ok (.ldc2_w 225, 3) := by decide +kernel
theorem dX12_withOf_63 : decode cX12_withOf 63 = .ok (.goto 13, 3) := by decide +kernel
theorem dX12_withOf_66 : decode cX12_withOf 66 = .ok (.lload 6, 2) := by decide +kernel
theorem dX12_withOf_68 : decode cX12_withOf 68 = .ok (.aload_n 0, 1) := by decide +kernel
theorem dX12_withOf_69 : decode cX12_withOf 69 = .ok (.iload_n 1, 1) := by decide +kernel
theorem dX12_withOf_70 : decode cX12_withOf 70 = .ok (.iload 4, 2) := by decide +kernel
theorem dX12_withOf_72 : decode cX12_withOf 72 = .ok (.invokevirtual 231, 3) := by decide +kernel
theorem dX12_withOf_75 : decode cX12_withOf 75 = .ok (.ladd, 1) := by decide +kernel
theorem dX12_withOf_76 : decode cX12_withOf 76 = .ok (.lreturn, 1) := by decide +kernel
theorem dX12_leastOf_0 : decode cX12_leastOf 0 = .ok (.aload_n 0, 1) := by decide +kernel
theorem dX12_leastOf_1 : decode cX12_leastOf 1 = .ok (.iload_n 2, 1) := by decide +kernel
theorem dX12_leastOf_2 : decode cX12_leastOf 2 = .ok (.invokevirtual 235, 3) := by decide +kernel
theorem dX12_leastOf_5 : decode cX12_leastOf 5 = .ok (.aload_n 0, 1) := by decide +kernel
theorem dX12_leastOf_6 : decode cX12_leastOf 6 = .ok (.getfield 43, 3) := by decide +kernel
theorem dX12_leastOf_9 : decode cX12_leastOf 9 = .ok (.bipush 10, 2) := by decide +kernel
theorem dX12_leastOf_11 : decode cX12_leastOf 11 = .ok (.iload_n 1, 1) := by decide +kernel
theorem dX12_leastOf_12 : decode cX12_leastOf 12 = .ok (.imul, 1) := by decide +kernel
theorem dX12_leastOf_13 : decode cX12_leastOf 13 = .ok (.laload, 1) := by decide +kernel
theorem dX12_leastOf_14 : decode cX12_leastOf 14 = .ok (.ldc2_w 225, 3) := by decide +kernel
theorem dX12_leastOf_17 : decode cX12_leastOf 17 = .ok (.lcmp, 1) := by decide +kernel
theorem dX12_leastOf_18 : decode cX12_leastOf 18 = .ok (.ifCond .ne 7, 3) := by decide +kernel
theorem dX12_leastOf_21 : decode cX12_leastOf 21 = .ok (.ldc2_w 104, 3) := by decide +kernel
theorem dX12_leastOf_24 : decode cX12_leastOf 24 = .ok (.lreturn, 1) := by decide +kernel
theorem dX12_leastOf_25 : decode cX12_leastOf 25 = .ok (.iconst 0, 1) := by decide +kernel
theorem dX12_leastOf_26 : decode cX12_leastOf 26 = .ok (.istore 4, 2) := by decide +kernel
theorem dX12_leastOf_28 : decode cX12_leastOf 28 = .ok (.iload_n 1, 1) := by decide +kernel
theorem dX12_leastOf_29 : decode cX12_leastOf 29 = .ok (.istore 5, 2) := by decide +kernel
theorem dX12_leastOf_31 : decode cX12_leastOf 31 = .ok (.iconst 0, 1) := by decide +kernel
theorem dX12_leastOf_32 : decode cX12_leastOf 32 = .ok (.istore 6, 2) := by decide +kernel
theorem dX12_leastOf_34 : decode cX12_leastOf 34 = .ok (.iconst 0, 1) := by decide +kernel
theorem dX12_leastOf_35 : decode cX12_leastOf 35 = .ok (.istore 7, 2) := by decide +kernel
theorem dX12_leastOf_37 : decode cX12_leastOf 37 = .ok (.iload 7, 2) := by decide +kernel
theorem dX12_leastOf_39 : decode cX12_leastOf 39 = .ok (.aload_n 0, 1) := by decide +kernel
theorem dX12_leastOf_40 : decode cX12_leastOf 40 = .ok (.invokevirtual 141, 3) := by decide +kernel
theorem dX12_leastOf_43 : decode cX12_leastOf 43 = .ok (.if_icmp .ge 86, 3) := by decide +kernel
theorem dX12_leastOf_46 : decode cX12_leastOf 46 = .ok (.aload_n 0, 1) := by decide +kernel
theorem dX12_leastOf_47 : decode cX12_leastOf 47 = .ok (.iload 7, 2) := by decide +kernel
theorem dX12_leastOf_49 : decode cX12_leastOf 49 = .ok (.iload 5, 2) := by decide +kernel
theorem dX12_leastOf_51 : decode cX12_leastOf 51 = .ok (.iload 6, 2) := by decide +kernel
theorem dX12_leastOf_53 : decode cX12_leastOf 53 = .ok (.iload_n 2, 1) := by decide +kernel
theorem dX12_leastOf_54 : decode cX12_leastOf 54 = .ok (.invokevirtual 227, 3) := by decide +kernel
theorem dX12_leastOf_57 : decode cX12_leastOf 57 = .ok (.aload_n 0, 1) := by decide +kernel
theorem dX12_leastOf_58 : decode cX12_leastOf 58 = .ok (.getfield 43, 3) := by decide +kernel
theorem dX12_leastOf_61 : decode cX12_leastOf 61 = .ok (.sipush 210, 3) := by decide +kernel
theorem dX12_leastOf_64 : decode cX12_leastOf 64 = .ok (.iload 7, 2) := by decide +kernel
theorem dX12_leastOf_66 : decode cX12_leastOf 66 = .ok (.imul, 1) := by decide +kernel
theorem dX12_leastOf_67 : decode cX12_leastOf 67 = .ok (.bipush 10, 2) := by decide +kernel
theorem dX12_leastOf_69 : decode cX12_leastOf 69 = .ok (.iload 5, 2) := by decide +kernel
theorem dX12_leastOf_71 : decode cX12_leastOf 71 = .ok (.imul, 1) := by decide +kernel
theorem dX12_leastOf_72 : decode cX12_leastOf 72 = .ok (.iadd, 1) := by decide +kernel
theorem dX12_leastOf_73 : decode cX12_leastOf 73 = .ok (.iload 6, 2) := by decide +kernel
theorem dX12_leastOf_75 : decode cX12_leastOf 75 = .ok (.iadd, 1) := by decide +kernel
theorem dX12_leastOf_76 : decode cX12_leastOf 76 = .ok (.laload, 1) := by decide +kernel
theorem dX12_leastOf_77 : decode cX12_leastOf 77 = .ok (.lcmp, 1) := by decide +kernel
theorem dX12_leastOf_78 : decode cX12_leastOf 78 = .ok (.ifCond .ne 45, 3) := by decide +kernel
theorem dX12_leastOf_81 : decode cX12_leastOf 81 = .ok (.iload 4, 2) := by decide +kernel
theorem dX12_leastOf_83 : decode cX12_leastOf 83 = .ok (.iload 5, 2) := by decide +kernel
theorem dX12_leastOf_85 : decode cX12_leastOf 85 = .ok (.ifCond .le 10, 3) := by decide +kernel
theorem dX12_leastOf_88 : decode cX12_leastOf 88 = .ok (.iconst 1, 1) := by decide +kernel
theorem dX12_leastOf_89 : decode cX12_leastOf 89 = .ok (.iload 7, 2) := by decide +kernel
theorem dX12_leastOf_91 : decode cX12_leastOf 91 = .ok (.ishl, 1) := by decide +kernel
theorem dX12_leastOf_92 : decode cX12_leastOf 92 = .ok (.goto 4, 3) := by decide +kernel
theorem dX12_leastOf_95 : decode cX12_leastOf 95 = .ok (.iconst 0, 1) := by decide +kernel
theorem dX12_leastOf_96 : decode cX12_leastOf 96 = .ok (.ior, 1) := by decide +kernel
theorem dX12_leastOf_97 : decode cX12_leastOf 97 = .ok (.istore 4, 2) := by decide +kernel
theorem dX12_leastOf_99 : decode cX12_leastOf 99 = .ok (.iload 6, 2) := by decide +kernel
theorem dX12_leastOf_101 : decode cX12_leastOf 101 = .ok (.aload_n 0, 1) := by decide +kernel
theorem dX12_leastOf_102 : decode cX12_leastOf 102 = .ok (.invokevirtual 157, 3) := by decide +kernel
theorem dX12_leastOf_105 : decode cX12_leastOf 105 = .ok (.iadd, 1) := by decide +kernel
theorem dX12_leastOf_106 : decode cX12_leastOf 106 = .ok (.aload_n 0, 1) := by decide +kernel
theorem dX12_leastOf_107 : decode cX12_leastOf 107 = .ok (.iload 7, 2) := by decide +kernel
theorem dX12_leastOf_109 : decode cX12_leastOf 109 = .ok (.invokevirtual 162, 3) := by decide +kernel
theorem dX12_leastOf_112 : decode cX12_leastOf 112 = .ok (.isub, 1) := by decide +kernel
theorem dX12_leastOf_113 : decode cX12_leastOf 113 = .ok (.aload_n 0, 1) := by decide +kernel
theorem dX12_leastOf_114 : decode cX12_leastOf 114 = .ok (.invokevirtual 157, 3) := by decide +kernel
theorem dX12_leastOf_117 : decode cX12_leastOf 117 = .ok (.irem, 1) := by decide +kernel
theorem dX12_leastOf_118 : decode cX12_leastOf 118 = .ok (.istore 6, 2) := by decide +kernel
theorem dX12_leastOf_120 : decode cX12_leastOf 120 = .ok (.iinc 5 (-1), 3) := by decide +kernel
theorem dX12_leastOf_123 : decode cX12_leastOf 123 = .ok (.iinc 7 1, 3) := by decide +kernel
theorem dX12_leastOf_126 : decode cX12_leastOf 126 = .ok (.goto (-89), 3) := by decide +kernel
theorem dX12_leastOf_129 : decode cX12_leastOf 129 = .ok (.iload_n 3, 1) := by decide +kernel
theorem dX12_leastOf_130 : decode cX12_leastOf 130 = .ok (.ifCond .eq 9, 3) := by decide +kernel
theorem dX12_leastOf_133 : decode cX12_leastOf 133 = .ok (.iload 4, 2) := by decide +kernel
theorem dX12_leastOf_135 : decode cX12_leastOf 135 = .ok (.i2l, 1) := by decide +kernel
theorem dX12_leastOf_136 : decode cX12_leastOf 136 = .ok (.goto 12, 3) := by decide +kernel
theorem dX12_leastOf_139 : decode cX12_leastOf 139 = .ok (.aload_n 0, 1) := by decide +kernel
theorem dX12_leastOf_140 : decode cX12_leastOf 140 = .ok (.getfield 43, 3) := by decide +kernel
theorem dX12_leastOf_143 : decode cX12_leastOf 143 = .ok (.bipush 10, 2) := by decide +kernel
theorem dX12_leastOf_145 : decode cX12_leastOf 145 = .ok (.iload_n 1, 1) := by decide +kernel
theorem dX12_leastOf_146 : decode cX12_leastOf 146 = .ok (.imul, 1) := by decide +kernel
theorem dX12_leastOf_147 : decode cX12_leastOf 147 = .ok (.laload, 1) := by decide +kernel
theorem dX12_leastOf_148 : decode cX12_leastOf 148 = .ok (.lreturn, 1) := by decide +kernel
theorem dX12_light_0 : decode cX12_light 0 = .ok (.iload_n 1, 1) := by decide +kernel
theorem dX12_light_1 : decode cX12_light 1 = .ok (.invokestatic 198, 3) := by decide +kernel
theorem dX12_light_4 : decode cX12_light 4 = .ok (.ifCond .eq 13, 3) := by decide +kernel
theorem dX12_light_7 : decode cX12_light 7 = .ok (.iload_n 2, 1) := by decide +kernel
theorem dX12_light_8 : decode cX12_light 8 = .ok (.i2l, 1) := by decide +kernel
theorem dX12_light_9 : decode cX12_light 9 = .ok (.lconst 0, 1) := by decide +kernel
theorem dX12_light_10 : decode cX12_light 10 = .ok (.lconst 1, 1) := by decide +kernel
theorem dX12_light_11 : decode cX12_light 11 = .ok (.invokestatic 69, 3) := by decide +kernel
theorem dX12_light_14 : decode cX12_light 14 = .ok (.ifCond .ne 7, 3) := by decide +kernel
theorem dX12_light_17 : decode cX12_light 17 = .ok (.ldc2_w 165, 3) := by decide +kernel
theorem dX12_light_20 : decode cX12_light 20 = .ok (.lreturn, 1) := by decide +kernel
theorem dX12_light_21 : decode cX12_light 21 = .ok (.aload_n 0, 1) := by decide +kernel
theorem dX12_light_22 : decode cX12_light 22 = .ok (.iload_n 1, 1) := by decide +kernel
theorem dX12_light_23 : decode cX12_light 23 = .ok (.iconst 0, 1) := by decide +kernel
theorem dX12_light_24 : decode cX12_light 24 = .ok (.iload_n 2, 1) := by decide +kernel
theorem dX12_light_25 : decode cX12_light 25 = .ok (.ifCond .ne 7, 3) := by decide +kernel
theorem dX12_light_28 : decode cX12_light 28 = .ok (.iconst 1, 1) := by decide +kernel
theorem dX12_light_29 : decode cX12_light 29 = .ok (.goto 4, 3) := by decide +kernel
theorem dX12_light_32 : decode cX12_light 32 = .ok (.iconst 0, 1) := by decide +kernel
theorem dX12_light_33 : decode cX12_light 33 = .ok (.invokevirtual 239, 3) := by decide +kernel
theorem dX12_light_36 : decode cX12_light 36 = .ok (.lreturn, 1) := by decide +kernel
theorem dX12_cheap_0 : decode cX12_cheap 0 = .ok (.iload_n 1, 1) := by decide +kernel
theorem dX12_cheap_1 : decode cX12_cheap 1 = .ok (.invokestatic 198, 3) := by decide +kernel
theorem dX12_cheap_4 : decode cX12_cheap 4 = .ok (.ifCond .eq 13, 3) := by decide +kernel
theorem dX12_cheap_7 : decode cX12_cheap 7 = .ok (.iload_n 2, 1) := by decide +kernel
theorem dX12_cheap_8 : decode cX12_cheap 8 = .ok (.i2l, 1) := by decide +kernel
theorem dX12_cheap_9 : decode cX12_cheap 9 = .ok (.lconst 0, 1) := by decide +kernel
theorem dX12_cheap_10 : decode cX12_cheap 10 = .ok (.lconst 1, 1) := by decide +kernel
theorem dX12_cheap_11 : decode cX12_cheap 11 = .ok (.invokestatic 69, 3) := by decide +kernel
theorem dX12_cheap_14 : decode cX12_cheap 14 = .ok (.ifCond .ne 6, 3) := by decide +kernel
theorem dX12_cheap_17 : decode cX12_cheap 17 = .ok (.bipush (-3), 2) := by decide +kernel
theorem dX12_cheap_19 : decode cX12_cheap 19 = .ok (.ireturn, 1) := by decide +kernel
theorem dX12_cheap_20 : decode cX12_cheap 20 = .ok (.aload_n 0, 1) := by decide +kernel
theorem dX12_cheap_21 : decode cX12_cheap 21 = .ok (.iload_n 1, 1) := by decide +kernel
theorem dX12_cheap_22 : decode cX12_cheap 22 = .ok (.iconst 1, 1) := by decide +kernel
theorem dX12_cheap_23 : decode cX12_cheap 23 = .ok (.iload_n 2, 1) := by decide +kernel
theorem dX12_cheap_24 : decode cX12_cheap 24 = .ok (.ifCond .ne 7, 3) := by decide +kernel
theorem dX12_cheap_27 : decode cX12_cheap 27 = .ok (.iconst 1, 1) := by decide +kernel
theorem dX12_cheap_28 : decode cX12_cheap 28 = .ok (.goto 4, 3) := by decide +kernel
theorem dX12_cheap_31 : decode cX12_cheap 31 = .ok (.iconst 0, 1) := by decide +kernel
theorem dX12_cheap_32 : decode cX12_cheap 32 = .ok (.invokevirtual 239, 3) := by decide +kernel
theorem dX12_cheap_35 : decode cX12_cheap 35 = .ok (.l2i, 1) := by decide +kernel
theorem dX12_cheap_36 : decode cX12_cheap 36 = .ok (.ireturn, 1) := by decide +kernel
theorem dX12_mends_0 : decode cX12_mends 0 = .ok (.aload_n 0, 1) := by decide +kernel
theorem dX12_mends_1 : decode cX12_mends 1 = .ok (.iload_n 1, 1) := by decide +kernel
theorem dX12_mends_2 : decode cX12_mends 2 = .ok (.invokevirtual 170, 3) := by decide +kernel
theorem dX12_mends_5 : decode cX12_mends 5 = .ok (.ifCond .eq 22, 3) := by decide +kernel
theorem dX12_mends_8 : decode cX12_mends 8 = .ok (.aload_n 0, 1) := by decide +kernel
theorem dX12_mends_9 : decode cX12_mends 9 = .ok (.invokevirtual 157, 3) := by decide +kernel
theorem dX12_mends_12 : decode cX12_mends 12 = .ok (.aload_n 0, 1) := by decide +kernel
theorem dX12_mends_13 : decode cX12_mends 13 = .ok (.iload_n 1, 1) := by decide +kernel
theorem dX12_mends_14 : decode cX12_mends 14 = .ok (.iconst 0, 1) := by decide +kernel
theorem dX12_mends_15 : decode cX12_mends 15 = .ok (.invokevirtual 173, 3) := by decide +kernel
theorem dX12_mends_18 : decode cX12_mends 18 = .ok (.isub, 1) := by decide +kernel
theorem dX12_mends_19 : decode cX12_mends 19 = .ok (.aload_n 0, 1) := by decide +kernel
theorem dX12_mends_20 : decode cX12_mends 20 = .ok (.invokevirtual 157, 3) := by decide +kernel
theorem dX12_mends_23 : decode cX12_mends 23 = .ok (.irem, 1) := by decide +kernel
theorem dX12_mends_24 : decode cX12_mends 24 = .ok (.goto 5, 3) := by decide +kernel
theorem dX12_mends_27 : decode cX12_mends 27 = .ok (.bipush (-2), 2) := by decide +kernel
theorem dX12_mends_29 : decode cX12_mends 29 = .ok (.ireturn, 1) := by decide +kernel
theorem dX12_swap_0 : decode cX12_swap 0 = .ok (.aload_n 0, 1) := by decide +kernel
theorem dX12_swap_1 : decode cX12_swap 1 = .ok (.iload_n 1, 1) := by decide +kernel
theorem dX12_swap_2 : decode cX12_swap 2 = .ok (.invokevirtual 170, 3) := by decide +kernel
theorem dX12_swap_5 : decode cX12_swap 5 = .ok (.ifCond .ne 6, 3) := by decide +kernel
theorem dX12_swap_8 : decode cX12_swap 8 = .ok (.bipush (-2), 2) := by decide +kernel
theorem dX12_swap_10 : decode cX12_swap 10 = .ok (.ireturn, 1) := by decide +kernel
theorem dX12_swap_11 : decode cX12_swap 11 = .ok (.iload_n 2, 1) := by decide +kernel
theorem dX12_swap_12 : decode cX12_swap 12 = .ok (.i2l, 1) := by decide +kernel
theorem dX12_swap_13 : decode cX12_swap 13 = .ok (.lconst 0, 1) := by decide +kernel
theorem dX12_swap_14 : decode cX12_swap 14 = .ok (.lconst 1, 1) := by decide +kernel
theorem dX12_swap_15 : decode cX12_swap 15 = .ok (.invokestatic 69, 3) := by decide +kernel
theorem dX12_swap_18 : decode cX12_swap 18 = .ok (.ifCond .ne 6, 3) := by decide +kernel
theorem dX12_swap_21 : decode cX12_swap 21 = .ok (.bipush (-3), 2) := by decide +kernel
theorem dX12_swap_23 : decode cX12_swap 23 = .ok (.ireturn, 1) := by decide +kernel
theorem dX12_swap_24 : decode cX12_swap 24 = .ok (.aload_n 0, 1) := by decide +kernel
theorem dX12_swap_25 : decode cX12_swap 25 = .ok (.iload_n 1, 1) := by decide +kernel
theorem dX12_swap_26 : decode cX12_swap 26 = .ok (.iconst 0, 1) := by decide +kernel
theorem dX12_swap_27 : decode cX12_swap 27 = .ok (.invokevirtual 173, 3) := by decide +kernel
theorem dX12_swap_30 : decode cX12_swap 30 = .ok (.istore_n 3, 1) := by decide +kernel
theorem dX12_swap_31 : decode cX12_swap 31 = .ok (.iconst 0, 1) := by decide +kernel
theorem dX12_swap_32 : decode cX12_swap 32 = .ok (.istore 4, 2) := by decide +kernel
theorem dX12_swap_34 : decode cX12_swap 34 = .ok (.iload 4, 2) := by decide +kernel
theorem dX12_swap_36 : decode cX12_swap 36 = .ok (.sipush 400, 3) := by decide +kernel
theorem dX12_swap_39 : decode cX12_swap 39 = .ok (.if_icmp .ge 103, 3) := by decide +kernel
theorem dX12_swap_42 : decode cX12_swap 42 = .ok (.iload_n 3, 1) := by decide +kernel
theorem dX12_swap_43 : decode cX12_swap 43 = .ok (.ifCond .le 99, 3) := by decide +kernel
theorem dX12_swap_46 : decode cX12_swap 46 = .ok (.iload 4, 2) := by decide +kernel
theorem dX12_swap_48 : decode cX12_swap 48 = .ok (.bipush 20, 2) := by decide +kernel
theorem dX12_swap_50 : decode cX12_swap 50 = .ok (.idiv, 1) := by decide +kernel
theorem dX12_swap_51 : decode cX12_swap 51 = .ok (.istore 5, 2) := by decide +kernel
theorem dX12_swap_53 : decode cX12_swap 53 = .ok (.iload 4, 2) := by decide +kernel
theorem dX12_swap_55 : decode cX12_swap 55 = .ok (.bipush 20, 2) := by decide +kernel
theorem dX12_swap_57 : decode cX12_swap 57 = .ok (.irem, 1) := by decide +kernel
theorem dX12_swap_58 : decode cX12_swap 58 = .ok (.istore 6, 2) := by decide +kernel
theorem dX12_swap_60 : decode cX12_swap 60 = .ok (.iload 5, 2) := by decide +kernel
theorem dX12_swap_62 : decode cX12_swap 62 = .ok (.aload_n 0, 1) := by decide +kernel
theorem dX12_swap_63 : decode cX12_swap 63 = .ok (.invokevirtual 141, 3) := by decide +kernel
theorem dX12_swap_66 : decode cX12_swap 66 = .ok (.if_icmp .ge 70, 3) := by decide +kernel
theorem dX12_swap_69 : decode cX12_swap 69 = .ok (.iload 6, 2) := by decide +kernel
theorem dX12_swap_71 : decode cX12_swap 71 = .ok (.aload_n 0, 1) := by decide +kernel
theorem dX12_swap_72 : decode cX12_swap 72 = .ok (.invokevirtual 141, 3) := by decide +kernel
theorem dX12_swap_75 : decode cX12_swap 75 = .ok (.if_icmp .ge 61, 3) := by decide +kernel
theorem dX12_swap_78 : decode cX12_swap 78 = .ok (.iload_n 1, 1) := by decide +kernel
theorem dX12_swap_79 : decode cX12_swap 79 = .ok (.iload 5, 2) := by decide +kernel
theorem dX12_swap_81 : decode cX12_swap 81 = .ok (.invokestatic 167, 3) := by decide +kernel
theorem dX12_swap_84 : decode cX12_swap 84 = .ok (.ifCond .eq 52, 3) := by decide +kernel
theorem dX12_swap_87 : decode cX12_swap 87 = .ok (.iload_n 1, 1) := by decide +kernel
theorem dX12_swap_88 : decode cX12_swap 88 = .ok (.iload 6, 2) := by decide +kernel
theorem dX12_swap_90 : decode cX12_swap 90 = .ok (.invokestatic 167, 3) := by decide +kernel
theorem dX12_swap_93 : decode cX12_swap 93 = .ok (.ifCond .ne 43, 3) := by decide +kernel
theorem dX12_swap_96 : decode cX12_swap 96 = .ok (.iload_n 3, 1) := by decide +kernel
theorem dX12_swap_97 : decode cX12_swap 97 = .ok (.aload_n 0, 1) := by decide +kernel
theorem dX12_swap_98 : decode cX12_swap 98 = .ok (.iload 6, 2) := by decide +kernel
theorem dX12_swap_100 : decode cX12_swap 100 = .ok (.invokevirtual 162, 3) := by decide +kernel
theorem dX12_swap_103 : decode cX12_swap 103 = .ok (.iadd, 1) := by decide +kernel
theorem dX12_swap_104 : decode cX12_swap 104 = .ok (.aload_n 0, 1) := by decide +kernel
theorem dX12_swap_105 : decode cX12_swap 105 = .ok (.invokevirtual 157, 3) := by decide +kernel
theorem dX12_swap_108 : decode cX12_swap 108 = .ok (.iadd, 1) := by decide +kernel
theorem dX12_swap_109 : decode cX12_swap 109 = .ok (.aload_n 0, 1) := by decide +kernel
theorem dX12_swap_110 : decode cX12_swap 110 = .ok (.iload 5, 2) := by decide +kernel
theorem dX12_swap_112 : decode cX12_swap 112 = .ok (.invokevirtual 162, 3) := by decide +kernel
theorem dX12_swap_115 : decode cX12_swap 115 = .ok (.isub, 1) := by decide +kernel
theorem dX12_swap_116 : decode cX12_swap 116 = .ok (.aload_n 0, 1) := by decide +kernel
theorem dX12_swap_117 : decode cX12_swap 117 = .ok (.invokevirtual 157, 3) := by decide +kernel
theorem dX12_swap_120 : decode cX12_swap 120 = .ok (.irem, 1) := by decide +kernel
theorem dX12_swap_121 : decode cX12_swap 121 = .ok (.ifCond .ne 15, 3) := by decide +kernel
theorem dX12_swap_124 : decode cX12_swap 124 = .ok (.iload_n 2, 1) := by decide +kernel
theorem dX12_swap_125 : decode cX12_swap 125 = .ok (.ifCond .ne 8, 3) := by decide +kernel
theorem dX12_swap_128 : decode cX12_swap 128 = .ok (.iload 5, 2) := by decide +kernel
theorem dX12_swap_130 : decode cX12_swap 130 = .ok (.goto 5, 3) := by decide +kernel
theorem dX12_swap_133 : decode cX12_swap 133 = .ok (.iload 6, 2) := by decide +kernel
theorem dX12_swap_135 : decode cX12_swap 135 = .ok (.ireturn, 1) := by decide +kernel
theorem dX12_swap_136 : decode cX12_swap 136 = .ok (.iinc 4 1, 3) := by decide +kernel
theorem dX12_swap_139 : decode cX12_swap 139 = .ok (.goto (-105), 3) := by decide +kernel
theorem dX12_swap_142 : decode cX12_swap 142 = .ok (.iconst (-1), 1) := by decide +kernel
theorem dX12_swap_143 : decode cX12_swap 143 = .ok (.ireturn, 1) := by decide +kernel
theorem dX12_hasTen_0 : decode cX12_hasTen 0 = .ok (.iconst 0, 1) := by decide +kernel
theorem dX12_hasTen_1 : decode cX12_hasTen 1 = .ok (.istore_n 3, 1) := by decide +kernel
theorem dX12_hasTen_2 : decode cX12_hasTen 2 = .ok (.iload_n 3, 1) := by decide +kernel
theorem dX12_hasTen_3 : decode cX12_hasTen 3 = .ok (.sipush 210, 3) := by decide +kernel
theorem dX12_hasTen_6 : decode cX12_hasTen 6 = .ok (.if_icmp .ge 24, 3) := by decide +kernel
theorem dX12_hasTen_9 : decode cX12_hasTen 9 = .ok (.aload_n 0, 1) := by decide +kernel
theorem dX12_hasTen_10 : decode cX12_hasTen 10 = .ok (.getfield 49, 3) := by decide +kernel
theorem dX12_hasTen_13 : decode cX12_hasTen 13 = .ok (.iload_n 3, 1) := by decide +kernel
theorem dX12_hasTen_14 : decode cX12_hasTen 14 = .ok (.iload_n 3, 1) := by decide +kernel
theorem dX12_hasTen_15 : decode cX12_hasTen 15 = .ok (.ifCond .ne 7, 3) := by decide +kernel
theorem dX12_hasTen_18 : decode cX12_hasTen 18 = .ok (.iconst 1, 1) := by decide +kernel
theorem dX12_hasTen_19 : decode cX12_hasTen 19 = .ok (.goto 4, 3) := by decide +kernel
theorem dX12_hasTen_22 : decode cX12_hasTen 22 = .ok (.iconst 0, 1) := by decide +kernel
theorem dX12_hasTen_23 : decode cX12_hasTen 23 = .ok (.bastore, 1) := by decide +kernel
theorem dX12_hasTen_24 : decode cX12_hasTen 24 = .ok (.iinc 3 1, 3) := by decide +kernel
theorem dX12_hasTen_27 : decode cX12_hasTen 27 = .ok (.goto (-25), 3) := by decide +kernel
theorem dX12_hasTen_30 : decode cX12_hasTen 30 = .ok (.iconst 0, 1) := by decide +kernel
theorem dX12_hasTen_31 : decode cX12_hasTen 31 = .ok (.istore_n 3, 1) := by decide +kernel
theorem dX12_hasTen_32 : decode cX12_hasTen 32 = .ok (.iload_n 3, 1) := by decide +kernel
theorem dX12_hasTen_33 : decode cX12_hasTen 33 = .ok (.iload_n 1, 1) := by decide +kernel
theorem dX12_hasTen_34 : decode cX12_hasTen 34 = .ok (.if_icmp .ge 118, 3) := by decide +kernel
theorem dX12_hasTen_37 : decode cX12_hasTen 37 = .ok (.iconst 0, 1) := by decide +kernel
theorem dX12_hasTen_38 : decode cX12_hasTen 38 = .ok (.istore 4, 2) := by decide +kernel
theorem dX12_hasTen_40 : decode cX12_hasTen 40 = .ok (.iload 4, 2) := by decide +kernel
theorem dX12_hasTen_42 : decode cX12_hasTen 42 = .ok (.aload_n 0, 1) := by decide +kernel
theorem dX12_hasTen_43 : decode cX12_hasTen 43 = .ok (.getfield 46, 3) := by decide +kernel
theorem dX12_hasTen_46 : decode cX12_hasTen 46 = .ok (.iload_n 3, 1) := by decide +kernel
theorem dX12_hasTen_47 : decode cX12_hasTen 47 = .ok (.iaload, 1) := by decide +kernel
theorem dX12_hasTen_48 : decode cX12_hasTen 48 = .ok (.if_icmp .ge 98, 3) := by decide +kernel
theorem dX12_hasTen_51 : decode cX12_hasTen 51 = .ok (.iload_n 2, 1) := by decide +kernel
theorem dX12_hasTen_52 : decode cX12_hasTen 52 = .ok (.istore 5, 2) := by decide +kernel
theorem dX12_hasTen_54 : decode cX12_hasTen 54 = .ok (.iload 5, 2) := by decide +kernel
theorem dX12_hasTen_56 : decode cX12_hasTen 56 = .ok (.ifCond .le 84, 3) := by decide +kernel
theorem dX12_hasTen_59 : decode cX12_hasTen 59 = .ok (.iconst 0, 1) := by decide +kernel
theorem dX12_hasTen_60 : decode cX12_hasTen 60 = .ok (.istore 6, 2) := by decide +kernel
theorem dX12_hasTen_62 : decode cX12_hasTen 62 = .ok (.iload 6, 2) := by decide +kernel
theorem dX12_hasTen_64 : decode cX12_hasTen 64 = .ok (.iload_n 1, 1) := by decide +kernel
theorem dX12_hasTen_65 : decode cX12_hasTen 65 = .ok (.if_icmp .ge 69, 3) := by decide +kernel
theorem dX12_hasTen_68 : decode cX12_hasTen 68 = .ok (.aload_n 0, 1) := by decide +kernel
theorem dX12_hasTen_69 : decode cX12_hasTen 69 = .ok (.getfield 49, 3) := by decide +kernel
theorem dX12_hasTen_72 : decode cX12_hasTen 72 = .ok (.bipush 10, 2) := by decide +kernel
theorem dX12_hasTen_74 : decode cX12_hasTen 74 = .ok (.iload 5, 2) := by decide +kernel
theorem dX12_hasTen_76 : decode cX12_hasTen 76 = .ok (.imul, 1) := by decide +kernel
theorem dX12_hasTen_77 : decode cX12_hasTen 77 = .ok (.iload 6, 2) := by decide +kernel
theorem dX12_hasTen_79 : decode cX12_hasTen 79 = .ok (.iload_n 3, 1) := by decide +kernel
theorem dX12_hasTen_80 : decode cX12_hasTen 80 = .ok (.iadd, 1) := by decide +kernel
theorem dX12_hasTen_81 : decode cX12_hasTen 81 = .ok (.iload_n 1, 1) := by decide +kernel
theorem dX12_hasTen_82 : decode cX12_hasTen 82 = .ok (.irem, 1) := by decide +kernel
theorem dX12_hasTen_83 : decode cX12_hasTen 83 = .ok (.iadd, 1) := by decide +kernel
theorem dX12_hasTen_84 : decode cX12_hasTen 84 = .ok (.aload_n 0, 1) := by decide +kernel
theorem dX12_hasTen_85 : decode cX12_hasTen 85 = .ok (.getfield 49, 3) := by decide +kernel
theorem dX12_hasTen_88 : decode cX12_hasTen 88 = .ok (.bipush 10, 2) := by decide +kernel
theorem dX12_hasTen_90 : decode cX12_hasTen 90 = .ok (.iload 5, 2) := by decide +kernel
theorem dX12_hasTen_92 : decode cX12_hasTen 92 = .ok (.imul, 1) := by decide +kernel
theorem dX12_hasTen_93 : decode cX12_hasTen 93 = .ok (.iload 6, 2) := by decide +kernel
theorem dX12_hasTen_95 : decode cX12_hasTen 95 = .ok (.iload_n 3, 1) := by decide +kernel
theorem dX12_hasTen_96 : decode cX12_hasTen 96 = .ok (.iadd, 1) := by decide +kernel
theorem dX12_hasTen_97 : decode cX12_hasTen 97 = .ok (.iload_n 1, 1) := by decide +kernel
theorem dX12_hasTen_98 : decode cX12_hasTen 98 = .ok (.irem, 1) := by decide +kernel
theorem dX12_hasTen_99 : decode cX12_hasTen 99 = .ok (.iadd, 1) := by decide +kernel
theorem dX12_hasTen_100 : decode cX12_hasTen 100 = .ok (.baload, 1) := by decide +kernel
theorem dX12_hasTen_101 : decode cX12_hasTen 101 = .ok (.ifCond .ne 21, 3) := by decide +kernel
theorem dX12_hasTen_104 : decode cX12_hasTen 104 = .ok (.aload_n 0, 1) := by decide +kernel
theorem dX12_hasTen_105 : decode cX12_hasTen 105 = .ok (.getfield 49, 3) := by decide +kernel
theorem dX12_hasTen_108 : decode cX12_hasTen 108 = .ok (.bipush 10, 2) := by decide +kernel
theorem dX12_hasTen_110 : decode cX12_hasTen 110 = .ok (.iload 5, 2) := by decide +kernel
theorem dX12_hasTen_112 : decode cX12_hasTen 112 = .ok (.iconst 1, 1) := by decide +kernel
theorem dX12_hasTen_113 : decode cX12_hasTen 113 = .ok (.isub, 1) := by decide +kernel
theorem dX12_hasTen_114 : decode cX12_hasTen 114 = .ok (.imul, 1) := by decide +kernel
theorem dX12_hasTen_115 : decode cX12_hasTen 115 = .ok (.iload 6, 2) := by decide +kernel
theorem dX12_hasTen_117 : decode cX12_hasTen 117 = .ok (.iadd, 1) := by decide +kernel
theorem dX12_hasTen_118 : decode cX12_hasTen 118 = .ok (.baload, 1) := by decide +kernel
theorem dX12_hasTen_119 : decode cX12_hasTen 119 = .ok (.ifCond .eq 7, 3) := by decide +kernel
theorem dX12_hasTen_122 : decode cX12_hasTen 122 = .ok (.iconst 1, 1) := by decide +kernel
theorem dX12_hasTen_123 : decode cX12_hasTen 123 = .ok (.goto 4, 3) := by decide +kernel
theorem dX12_hasTen_126 : decode cX12_hasTen 126 = .ok (.iconst 0, 1) := by decide +kernel
theorem dX12_hasTen_127 : decode cX12_hasTen 127 = .ok (.bastore, 1) := by decide +kernel
theorem dX12_hasTen_128 : decode cX12_hasTen 128 = .ok (.iinc 6 1, 3) := by decide +kernel
theorem dX12_hasTen_131 : decode cX12_hasTen 131 = .ok (.goto (-69), 3) := by decide +kernel
theorem dX12_hasTen_134 : decode cX12_hasTen 134 = .ok (.iinc 5 (-1), 3) := by decide +kernel
theorem dX12_hasTen_137 : decode cX12_hasTen 137 = .ok (.goto (-83), 3) := by decide +kernel
theorem dX12_hasTen_140 : decode cX12_hasTen 140 = .ok (.iinc 4 1, 3) := by decide +kernel
theorem dX12_hasTen_143 : decode cX12_hasTen 143 = .ok (.goto (-103), 3) := by decide +kernel
theorem dX12_hasTen_146 : decode cX12_hasTen 146 = .ok (.iinc 3 1, 3) := by decide +kernel
theorem dX12_hasTen_149 : decode cX12_hasTen 149 = .ok (.goto (-117), 3) := by decide +kernel
theorem dX12_hasTen_152 : decode cX12_hasTen 152 = .ok (.aload_n 0, 1) := by decide +kernel
theorem dX12_hasTen_153 : decode cX12_hasTen 153 = .ok (.getfield 49, 3) := by decide +kernel
theorem dX12_hasTen_156 : decode cX12_hasTen 156 = .ok (.bipush 10, 2) := by decide +kernel
theorem dX12_hasTen_158 : decode cX12_hasTen 158 = .ok (.iload_n 2, 1) := by decide +kernel
theorem dX12_hasTen_159 : decode cX12_hasTen 159 = .ok (.imul, 1) := by decide +kernel
theorem dX12_hasTen_160 : decode cX12_hasTen 160 = .ok (.baload, 1) := by decide +kernel
theorem dX12_hasTen_161 : decode cX12_hasTen 161 = .ok (.ireturn, 1) := by decide +kernel
theorem dX12_layOften_0 : decode cX12_layOften 0 = .ok (.iconst 0, 1) := by decide +kernel
theorem dX12_layOften_1 : decode cX12_layOften 1 = .ok (.istore_n 3, 1) := by decide +kernel
theorem dX12_layOften_2 : decode cX12_layOften 2 = .ok (.iload_n 1, 1) := by decide +kernel
theorem dX12_layOften_3 : decode cX12_layOften 3 = .ok (.istore 4, 2) := by decide +kernel
theorem dX12_layOften_5 : decode cX12_layOften 5 = .ok (.iconst 0, 1) := by decide +kernel
theorem dX12_layOften_6 : decode cX12_layOften 6 = .ok (.istore 5, 2) := by decide +kernel
theorem dX12_layOften_8 : decode cX12_layOften 8 = .ok (.iload 5, 2) := by decide +kernel
theorem dX12_layOften_10 : decode cX12_layOften 10 = .ok (.bipush 10, 2) := by decide +kernel
theorem dX12_layOften_12 : decode cX12_layOften 12 = .ok (.if_icmp .ge 38, 3) := by decide +kernel
theorem dX12_layOften_15 : decode cX12_layOften 15 = .ok (.aload_n 0, 1) := by decide +kernel
theorem dX12_layOften_16 : decode cX12_layOften 16 = .ok (.getfield 46, 3) := by decide +kernel
theorem dX12_layOften_19 : decode cX12_layOften 19 = .ok (.iload 5, 2) := by decide +kernel
theorem dX12_layOften_21 : decode cX12_layOften 21 = .ok (.iload 4, 2) := by decide +kernel
theorem dX12_layOften_23 : decode cX12_layOften 23 = .ok (.bipush 10, 2) := by decide +kernel
theorem dX12_layOften_25 : decode cX12_layOften 25 = .ok (.irem, 1) := by decide +kernel
theorem dX12_layOften_26 : decode cX12_layOften 26 = .ok (.iastore, 1) := by decide +kernel
theorem dX12_layOften_27 : decode cX12_layOften 27 = .ok (.iload_n 3, 1) := by decide +kernel
theorem dX12_layOften_28 : decode cX12_layOften 28 = .ok (.aload_n 0, 1) := by decide +kernel
theorem dX12_layOften_29 : decode cX12_layOften 29 = .ok (.getfield 46, 3) := by decide +kernel
theorem dX12_layOften_32 : decode cX12_layOften 32 = .ok (.iload 5, 2) := by decide +kernel
theorem dX12_layOften_34 : decode cX12_layOften 34 = .ok (.iaload, 1) := by decide +kernel
theorem dX12_layOften_35 : decode cX12_layOften 35 = .ok (.iadd, 1) := by decide +kernel
theorem dX12_layOften_36 : decode cX12_layOften 36 = .ok (.istore_n 3, 1) := by decide +kernel
theorem dX12_layOften_37 : decode cX12_layOften 37 = .ok (.iload 4, 2) := by decide +kernel
theorem dX12_layOften_39 : decode cX12_layOften 39 = .ok (.bipush 10, 2) := by decide +kernel
theorem dX12_layOften_41 : decode cX12_layOften 41 = .ok (.idiv, 1) := by decide +kernel
theorem dX12_layOften_42 : decode cX12_layOften 42 = .ok (.istore 4, 2) := by decide +kernel
theorem dX12_layOften_44 : decode cX12_layOften 44 = .ok (.iinc 5 1, 3) := by decide +kernel
theorem dX12_layOften_47 : decode cX12_layOften 47 = .ok (.goto (-39), 3) := by decide +kernel
theorem dX12_layOften_50 : decode cX12_layOften 50 = .ok (.iload_n 3, 1) := by decide +kernel
theorem dX12_layOften_51 : decode cX12_layOften 51 = .ok (.iload_n 2, 1) := by decide +kernel
theorem dX12_layOften_52 : decode cX12_layOften 52 = .ok (.if_icmp .ne 7, 3) := by decide +kernel
theorem dX12_layOften_55 : decode cX12_layOften 55 = .ok (.iconst 1, 1) := by decide +kernel
theorem dX12_layOften_56 : decode cX12_layOften 56 = .ok (.goto 4, 3) := by decide +kernel
theorem dX12_layOften_59 : decode cX12_layOften 59 = .ok (.iconst 0, 1) := by decide +kernel
theorem dX12_layOften_60 : decode cX12_layOften 60 = .ok (.ireturn, 1) := by decide +kernel
theorem dX12_rowsOf_0 : decode cX12_rowsOf 0 = .ok (.iconst 1, 1) := by decide +kernel
theorem dX12_rowsOf_1 : decode cX12_rowsOf 1 = .ok (.istore_n 1, 1) := by decide +kernel
theorem dX12_rowsOf_2 : decode cX12_rowsOf 2 = .ok (.iconst 0, 1) := by decide +kernel
theorem dX12_rowsOf_3 : decode cX12_rowsOf 3 = .ok (.istore_n 2, 1) := by decide +kernel
theorem dX12_rowsOf_4 : decode cX12_rowsOf 4 = .ok (.iload_n 2, 1) := by decide +kernel
theorem dX12_rowsOf_5 : decode cX12_rowsOf 5 = .ok (.iload_n 0, 1) := by decide +kernel
theorem dX12_rowsOf_6 : decode cX12_rowsOf 6 = .ok (.if_icmp .ge 14, 3) := by decide +kernel
theorem dX12_rowsOf_9 : decode cX12_rowsOf 9 = .ok (.iload_n 1, 1) := by decide +kernel
theorem dX12_rowsOf_10 : decode cX12_rowsOf 10 = .ok (.bipush 10, 2) := by decide +kernel
theorem dX12_rowsOf_12 : decode cX12_rowsOf 12 = .ok (.imul, 1) := by decide +kernel
theorem dX12_rowsOf_13 : decode cX12_rowsOf 13 = .ok (.istore_n 1, 1) := by decide +kernel
theorem dX12_rowsOf_14 : decode cX12_rowsOf 14 = .ok (.iinc 2 1, 3) := by decide +kernel
theorem dX12_rowsOf_17 : decode cX12_rowsOf 17 = .ok (.goto (-13), 3) := by decide +kernel
theorem dX12_rowsOf_20 : decode cX12_rowsOf 20 = .ok (.iload_n 1, 1) := by decide +kernel
theorem dX12_rowsOf_21 : decode cX12_rowsOf 21 = .ok (.ireturn, 1) := by decide +kernel
theorem dX12_areSmall_0 : decode cX12_areSmall 0 = .ok (.iload_n 0, 1) := by decide +kernel
theorem dX12_areSmall_1 : decode cX12_areSmall 1 = .ok (.i2l, 1) := by decide +kernel
theorem dX12_areSmall_2 : decode cX12_areSmall 2 = .ok (.ldc2_w 243, 3) := by decide +kernel
theorem dX12_areSmall_5 : decode cX12_areSmall 5 = .ok (.ldc2_w 245, 3) := by decide +kernel
theorem dX12_areSmall_8 : decode cX12_areSmall 8 = .ok (.invokestatic 69, 3) := by decide +kernel
theorem dX12_areSmall_11 : decode cX12_areSmall 11 = .ok (.ifCond .eq 31, 3) := by decide +kernel
theorem dX12_areSmall_14 : decode cX12_areSmall 14 = .ok (.iload_n 1, 1) := by decide +kernel
theorem dX12_areSmall_15 : decode cX12_areSmall 15 = .ok (.i2l, 1) := by decide +kernel
theorem dX12_areSmall_16 : decode cX12_areSmall 16 = .ok (.lconst 0, 1) := by decide +kernel
theorem dX12_areSmall_17 : decode cX12_areSmall 17 = .ok (.ldc2_w 247, 3) := by decide +kernel
theorem dX12_areSmall_20 : decode cX12_areSmall 20 = .ok (.invokestatic 69, 3) := by decide +kernel
theorem dX12_areSmall_23 : decode cX12_areSmall 23 = .ok (.ifCond .eq 19, 3) := by decide +kernel
theorem dX12_areSmall_26 : decode cX12_areSmall 26 = .ok (.iload_n 2, 1) := by decide +kernel
theorem dX12_areSmall_27 : decode cX12_areSmall 27 = .ok (.i2l, 1) := by decide +kernel
theorem dX12_areSmall_28 : decode cX12_areSmall 28 = .ok (.lconst 1, 1) := by decide +kernel
theorem dX12_areSmall_29 : decode cX12_areSmall 29 = .ok (.ldc2_w 247, 3) := by decide +kernel
theorem dX12_areSmall_32 : decode cX12_areSmall 32 = .ok (.invokestatic 69, 3) := by decide +kernel
theorem dX12_areSmall_35 : decode cX12_areSmall 35 = .ok (.ifCond .eq 7, 3) := by decide +kernel
theorem dX12_areSmall_38 : decode cX12_areSmall 38 = .ok (.iconst 1, 1) := by decide +kernel
theorem dX12_areSmall_39 : decode cX12_areSmall 39 = .ok (.goto 4, 3) := by decide +kernel
theorem dX12_areSmall_42 : decode cX12_areSmall 42 = .ok (.iconst 0, 1) := by decide +kernel
theorem dX12_areSmall_43 : decode cX12_areSmall 43 = .ok (.ireturn, 1) := by decide +kernel
theorem dX12_worstOf_0 : decode cX12_worstOf 0 = .ok (.iconst 0, 1) := by decide +kernel
theorem dX12_worstOf_1 : decode cX12_worstOf 1 = .ok (.istore 5, 2) := by decide +kernel
theorem dX12_worstOf_3 : decode cX12_worstOf 3 = .ok (.iconst 0, 1) := by decide +kernel
theorem dX12_worstOf_4 : decode cX12_worstOf 4 = .ok (.istore 6, 2) := by decide +kernel
theorem dX12_worstOf_6 : decode cX12_worstOf 6 = .ok (.iload 6, 2) := by decide +kernel
theorem dX12_worstOf_8 : decode cX12_worstOf 8 = .ok (.iload_n 1, 1) := by decide +kernel
theorem dX12_worstOf_9 : decode cX12_worstOf 9 = .ok (.invokestatic 249, 3) := by decide +kernel
theorem dX12_worstOf_12 : decode cX12_worstOf 12 = .ok (.if_icmp .ge 41, 3) := by decide +kernel
theorem dX12_worstOf_15 : decode cX12_worstOf 15 = .ok (.aload_n 0, 1) := by decide +kernel
theorem dX12_worstOf_16 : decode cX12_worstOf 16 = .ok (.iload 6, 2) := by decide +kernel
theorem dX12_worstOf_18 : decode cX12_worstOf 18 = .ok (.iload_n 2, 1) := by decide +kernel
theorem dX12_worstOf_19 : decode cX12_worstOf 19 = .ok (.invokevirtual 252, 3) := by decide +kernel
theorem dX12_worstOf_22 : decode cX12_worstOf 22 = .ok (.ifCond .eq 25, 3) := by decide +kernel
theorem dX12_worstOf_25 : decode cX12_worstOf 25 = .ok (.aload_n 0, 1) := by decide +kernel
theorem dX12_worstOf_26 : decode cX12_worstOf 26 = .ok (.iload_n 1, 1) := by decide +kernel
theorem dX12_worstOf_27 : decode cX12_worstOf 27 = .ok (.iload_n 3, 1) := by decide +kernel
theorem dX12_worstOf_28 : decode cX12_worstOf 28 = .ok (.invokevirtual 255, 3) := by decide +kernel
theorem dX12_worstOf_31 : decode cX12_worstOf 31 = .ok (.ifCond .ne 16, 3) := by decide +kernel
theorem dX12_worstOf_34 : decode cX12_worstOf 34 = .ok (.iload 5, 2) := by decide +kernel
theorem dX12_worstOf_36 : decode cX12_worstOf 36 = .ok (.iload 4, 2) := by decide +kernel
theorem dX12_worstOf_38 : decode cX12_worstOf 38 = .ok (.if_icmp .ne 6, 3) := by decide +kernel
theorem dX12_worstOf_41 : decode cX12_worstOf 41 = .ok (.iload 6, 2) := by decide +kernel
theorem dX12_worstOf_43 : decode cX12_worstOf 43 = .ok (.ireturn, 1) := by decide +kernel
theorem dX12_worstOf_44 : decode cX12_worstOf 44 = .ok (.iinc 5 1, 3) := by decide +kernel
theorem dX12_worstOf_47 : decode cX12_worstOf 47 = .ok (.iinc 6 1, 3) := by decide +kernel
theorem dX12_worstOf_50 : decode cX12_worstOf 50 = .ok (.goto (-44), 3) := by decide +kernel
theorem dX12_worstOf_53 : decode cX12_worstOf 53 = .ok (.iload 4, 2) := by decide +kernel
theorem dX12_worstOf_55 : decode cX12_worstOf 55 = .ok (.iconst (-1), 1) := by decide +kernel
theorem dX12_worstOf_56 : decode cX12_worstOf 56 = .ok (.if_icmp .ne 8, 3) := by decide +kernel
theorem dX12_worstOf_59 : decode cX12_worstOf 59 = .ok (.iload 5, 2) := by decide +kernel
theorem dX12_worstOf_61 : decode cX12_worstOf 61 = .ok (.goto 4, 3) := by decide +kernel
theorem dX12_worstOf_64 : decode cX12_worstOf 64 = .ok (.iconst (-1), 1) := by decide +kernel
theorem dX12_worstOf_65 : decode cX12_worstOf 65 = .ok (.ireturn, 1) := by decide +kernel
theorem dX12_always_0 : decode cX12_always 0 = .ok (.iload_n 1, 1) := by decide +kernel
theorem dX12_always_1 : decode cX12_always 1 = .ok (.iload_n 2, 1) := by decide +kernel
theorem dX12_always_2 : decode cX12_always 2 = .ok (.iload_n 3, 1) := by decide +kernel
theorem dX12_always_3 : decode cX12_always 3 = .ok (.invokestatic 258, 3) := by decide +kernel
theorem dX12_always_6 : decode cX12_always 6 = .ok (.ifCond .ne 8, 3) := by decide +kernel
theorem dX12_always_9 : decode cX12_always 9 = .ok (.bipush (-3), 2) := by decide +kernel
theorem dX12_always_11 : decode cX12_always 11 = .ok (.goto 20, 3) := by decide +kernel
theorem dX12_always_14 : decode cX12_always 14 = .ok (.aload_n 0, 1) := by decide +kernel
theorem dX12_always_15 : decode cX12_always 15 = .ok (.iload_n 1, 1) := by decide +kernel
theorem dX12_always_16 : decode cX12_always 16 = .ok (.iload_n 2, 1) := by decide +kernel
theorem dX12_always_17 : decode cX12_always 17 = .ok (.iload_n 3, 1) := by decide +kernel
theorem dX12_always_18 : decode cX12_always 18 = .ok (.iconst 0, 1) := by decide +kernel
theorem dX12_always_19 : decode cX12_always 19 = .ok (.invokevirtual 261, 3) := by decide +kernel
theorem dX12_always_22 : decode cX12_always 22 = .ok (.iconst (-1), 1) := by decide +kernel
theorem dX12_always_23 : decode cX12_always 23 = .ok (.if_icmp .ne 7, 3) := by decide +kernel
theorem dX12_always_26 : decode cX12_always 26 = .ok (.iconst 1, 1) := by decide +kernel
theorem dX12_always_27 : decode cX12_always 27 = .ok (.goto 4, 3) := by decide +kernel
theorem dX12_always_30 : decode cX12_always 30 = .ok (.iconst 0, 1) := by decide +kernel
theorem dX12_always_31 : decode cX12_always 31 = .ok (.ireturn, 1) := by decide +kernel
theorem dX12_need_0 : decode cX12_need 0 = .ok (.iload_n 1, 1) := by decide +kernel
theorem dX12_need_1 : decode cX12_need 1 = .ok (.iconst 0, 1) := by decide +kernel
theorem dX12_need_2 : decode cX12_need 2 = .ok (.iload_n 2, 1) := by decide +kernel
theorem dX12_need_3 : decode cX12_need 3 = .ok (.invokestatic 258, 3) := by decide +kernel
theorem dX12_need_6 : decode cX12_need 6 = .ok (.ifCond .ne 6, 3) := by decide +kernel
theorem dX12_need_9 : decode cX12_need 9 = .ok (.bipush (-3), 2) := by decide +kernel
theorem dX12_need_11 : decode cX12_need 11 = .ok (.ireturn, 1) := by decide +kernel
theorem dX12_need_12 : decode cX12_need 12 = .ok (.iconst 0, 1) := by decide +kernel
theorem dX12_need_13 : decode cX12_need 13 = .ok (.istore_n 3, 1) := by decide +kernel
theorem dX12_need_14 : decode cX12_need 14 = .ok (.iload_n 3, 1) := by decide +kernel
theorem dX12_need_15 : decode cX12_need 15 = .ok (.bipush 10, 2) := by decide +kernel
theorem dX12_need_17 : decode cX12_need 17 = .ok (.if_icmp .ge 23, 3) := by decide +kernel
theorem dX12_need_20 : decode cX12_need 20 = .ok (.aload_n 0, 1) := by decide +kernel
theorem dX12_need_21 : decode cX12_need 21 = .ok (.iload_n 1, 1) := by decide +kernel
theorem dX12_need_22 : decode cX12_need 22 = .ok (.iload_n 3, 1) := by decide +kernel
theorem dX12_need_23 : decode cX12_need 23 = .ok (.iload_n 2, 1) := by decide +kernel
theorem dX12_need_24 : decode cX12_need 24 = .ok (.iconst 0, 1) := by decide +kernel
theorem dX12_need_25 : decode cX12_need 25 = .ok (.invokevirtual 261, 3) := by decide +kernel
theorem dX12_need_28 : decode cX12_need 28 = .ok (.iconst (-1), 1) := by decide +kernel
theorem dX12_need_29 : decode cX12_need 29 = .ok (.if_icmp .ne 5, 3) := by decide +kernel
theorem dX12_need_32 : decode cX12_need 32 = .ok (.iload_n 3, 1) := by decide +kernel
theorem dX12_need_33 : decode cX12_need 33 = .ok (.ireturn, 1) := by decide +kernel
theorem dX12_need_34 : decode cX12_need 34 = .ok (.iinc 3 1, 3) := by decide +kernel
theorem dX12_need_37 : decode cX12_need 37 = .ok (.goto (-23), 3) := by decide +kernel
theorem dX12_need_40 : decode cX12_need 40 = .ok (.iconst (-1), 1) := by decide +kernel
theorem dX12_need_41 : decode cX12_need 41 = .ok (.ireturn, 1) := by decide +kernel
theorem dX12_worst_0 : decode cX12_worst 0 = .ok (.iload_n 1, 1) := by decide +kernel
theorem dX12_worst_1 : decode cX12_worst 1 = .ok (.iload_n 2, 1) := by decide +kernel
theorem dX12_worst_2 : decode cX12_worst 2 = .ok (.iload_n 3, 1) := by decide +kernel
theorem dX12_worst_3 : decode cX12_worst 3 = .ok (.invokestatic 258, 3) := by decide +kernel
theorem dX12_worst_6 : decode cX12_worst 6 = .ok (.ifCond .eq 9, 3) := by decide +kernel
theorem dX12_worst_9 : decode cX12_worst 9 = .ok (.iload 4, 2) := by decide +kernel
theorem dX12_worst_11 : decode cX12_worst 11 = .ok (.iconst (-1), 1) := by decide +kernel
theorem dX12_worst_12 : decode cX12_worst 12 = .ok (.if_icmp .ge 8, 3) := by decide +kernel
theorem dX12_worst_15 : decode cX12_worst 15 = .ok (.bipush (-3), 2) := by decide +kernel
theorem dX12_worst_17 : decode cX12_worst 17 = .ok (.goto 12, 3) := by decide +kernel
theorem dX12_worst_20 : decode cX12_worst 20 = .ok (.aload_n 0, 1) := by decide +kernel
theorem dX12_worst_21 : decode cX12_worst 21 = .ok (.iload_n 1, 1) := by decide +kernel
theorem dX12_worst_22 : decode cX12_worst 22 = .ok (.iload_n 2, 1) := by decide +kernel
theorem dX12_worst_23 : decode cX12_worst 23 = .ok (.iload_n 3, 1) := by decide +kernel
theorem dX12_worst_24 : decode cX12_worst 24 = .ok (.iload 4, 2) := by decide +kernel
theorem dX12_worst_26 : decode cX12_worst 26 = .ok (.invokevirtual 261, 3) := by decide +kernel
theorem dX12_worst_29 : decode cX12_worst 29 = .ok (.ireturn, 1) := by decide +kernel
theorem dX12_come_0 : decode cX12_come 0 = .ok (.iload_n 1, 1) := by decide +kernel
theorem dX12_come_1 : decode cX12_come 1 = .ok (.invokestatic 198, 3) := by decide +kernel
theorem dX12_come_4 : decode cX12_come 4 = .ok (.ifCond .ne 6, 3) := by decide +kernel
theorem dX12_come_7 : decode cX12_come 7 = .ok (.bipush (-3), 2) := by decide +kernel
theorem dX12_come_9 : decode cX12_come 9 = .ok (.ireturn, 1) := by decide +kernel
theorem dX12_come_10 : decode cX12_come 10 = .ok (.iconst 0, 1) := by decide +kernel
theorem dX12_come_11 : decode cX12_come 11 = .ok (.istore_n 2, 1) := by decide +kernel
theorem dX12_come_12 : decode cX12_come 12 = .ok (.iload_n 2, 1) := by decide +kernel
theorem dX12_come_13 : decode cX12_come 13 = .ok (.bipush 10, 2) := by decide +kernel
theorem dX12_come_15 : decode cX12_come 15 = .ok (.if_icmp .ge 16, 3) := by decide +kernel
theorem dX12_come_18 : decode cX12_come 18 = .ok (.aload_n 0, 1) := by decide +kernel
theorem dX12_come_19 : decode cX12_come 19 = .ok (.getfield 46, 3) := by decide +kernel
theorem dX12_come_22 : decode cX12_come 22 = .ok (.iload_n 2, 1) := by decide +kernel
theorem dX12_come_23 : decode cX12_come 23 = .ok (.iconst 0, 1) := by decide +kernel
theorem dX12_come_24 : decode cX12_come 24 = .ok (.iastore, 1) := by decide +kernel
theorem dX12_come_25 : decode cX12_come 25 = .ok (.iinc 2 1, 3) := by decide +kernel
theorem dX12_come_28 : decode cX12_come 28 = .ok (.goto (-16), 3) := by decide +kernel
theorem dX12_come_31 : decode cX12_come 31 = .ok (.iconst 0, 1) := by decide +kernel
theorem dX12_come_32 : decode cX12_come 32 = .ok (.istore_n 2, 1) := by decide +kernel
theorem dX12_come_33 : decode cX12_come 33 = .ok (.iload_n 2, 1) := by decide +kernel
theorem dX12_come_34 : decode cX12_come 34 = .ok (.aload_n 0, 1) := by decide +kernel
theorem dX12_come_35 : decode cX12_come 35 = .ok (.invokevirtual 141, 3) := by decide +kernel
theorem dX12_come_38 : decode cX12_come 38 = .ok (.if_icmp .ge 39, 3) := by decide +kernel
theorem dX12_come_41 : decode cX12_come 41 = .ok (.aload_n 0, 1) := by decide +kernel
theorem dX12_come_42 : decode cX12_come 42 = .ok (.getfield 46, 3) := by decide +kernel
theorem dX12_come_45 : decode cX12_come 45 = .ok (.aload_n 0, 1) := by decide +kernel
theorem dX12_come_46 : decode cX12_come 46 = .ok (.iload_n 2, 1) := by decide +kernel
theorem dX12_come_47 : decode cX12_come 47 = .ok (.invokevirtual 162, 3) := by decide +kernel
theorem dX12_come_50 : decode cX12_come 50 = .ok (.dup2, 1) := by decide +kernel
theorem dX12_come_51 : decode cX12_come 51 = .ok (.iaload, 1) := by decide +kernel
theorem dX12_come_52 : decode cX12_come 52 = .ok (.iconst 1, 1) := by decide +kernel
theorem dX12_come_53 : decode cX12_come 53 = .ok (.iadd, 1) := by decide +kernel
theorem dX12_come_54 : decode cX12_come 54 = .ok (.iastore, 1) := by decide +kernel
theorem dX12_come_55 : decode cX12_come 55 = .ok (.aload_n 0, 1) := by decide +kernel
theorem dX12_come_56 : decode cX12_come 56 = .ok (.aload_n 0, 1) := by decide +kernel
theorem dX12_come_57 : decode cX12_come 57 = .ok (.invokevirtual 157, 3) := by decide +kernel
theorem dX12_come_60 : decode cX12_come 60 = .ok (.iload_n 1, 1) := by decide +kernel
theorem dX12_come_61 : decode cX12_come 61 = .ok (.invokevirtual 255, 3) := by decide +kernel
theorem dX12_come_64 : decode cX12_come 64 = .ok (.ifCond .eq 7, 3) := by decide +kernel
theorem dX12_come_67 : decode cX12_come 67 = .ok (.iload_n 2, 1) := by decide +kernel
theorem dX12_come_68 : decode cX12_come 68 = .ok (.iconst 1, 1) := by decide +kernel
theorem dX12_come_69 : decode cX12_come 69 = .ok (.iadd, 1) := by decide +kernel
theorem dX12_come_70 : decode cX12_come 70 = .ok (.ireturn, 1) := by decide +kernel
theorem dX12_come_71 : decode cX12_come 71 = .ok (.iinc 2 1, 3) := by decide +kernel
theorem dX12_come_74 : decode cX12_come 74 = .ok (.goto (-41), 3) := by decide +kernel
theorem dX12_come_77 : decode cX12_come 77 = .ok (.iconst (-1), 1) := by decide +kernel
theorem dX12_come_78 : decode cX12_come 78 = .ok (.ireturn, 1) := by decide +kernel
theorem dX12_badly_0 : decode cX12_badly 0 = .ok (.iload_n 1, 1) := by decide +kernel
theorem dX12_badly_1 : decode cX12_badly 1 = .ok (.invokestatic 198, 3) := by decide +kernel
theorem dX12_badly_4 : decode cX12_badly 4 = .ok (.ifCond .ne 6, 3) := by decide +kernel
theorem dX12_badly_7 : decode cX12_badly 7 = .ok (.bipush (-3), 2) := by decide +kernel
theorem dX12_badly_9 : decode cX12_badly 9 = .ok (.ireturn, 1) := by decide +kernel
theorem dX12_badly_10 : decode cX12_badly 10 = .ok (.aload_n 0, 1) := by decide +kernel
theorem dX12_badly_11 : decode cX12_badly 11 = .ok (.invokevirtual 157, 3) := by decide +kernel
theorem dX12_badly_14 : decode cX12_badly 14 = .ok (.bipush 6, 2) := by decide +kernel
theorem dX12_badly_16 : decode cX12_badly 16 = .ok (.if_icmp .le 6, 3) := by decide +kernel
theorem dX12_badly_19 : decode cX12_badly 19 = .ok (.bipush (-4), 2) := by decide +kernel
theorem dX12_badly_21 : decode cX12_badly 21 = .ok (.ireturn, 1) := by decide +kernel
theorem dX12_badly_22 : decode cX12_badly 22 = .ok (.iconst 1, 1) := by decide +kernel
theorem dX12_badly_23 : decode cX12_badly 23 = .ok (.istore_n 2, 1) := by decide +kernel
theorem dX12_badly_24 : decode cX12_badly 24 = .ok (.iconst 0, 1) := by decide +kernel
theorem dX12_badly_25 : decode cX12_badly 25 = .ok (.istore_n 3, 1) := by decide +kernel
theorem dX12_badly_26 : decode cX12_badly 26 = .ok (.iload_n 3, 1) := by decide +kernel
theorem dX12_badly_27 : decode cX12_badly 27 = .ok (.bipush 10, 2) := by decide +kernel
theorem dX12_badly_29 : decode cX12_badly 29 = .ok (.if_icmp .ge 16, 3) := by decide +kernel
theorem dX12_badly_32 : decode cX12_badly 32 = .ok (.aload_n 0, 1) := by decide +kernel
theorem dX12_badly_33 : decode cX12_badly 33 = .ok (.getfield 52, 3) := by decide +kernel
theorem dX12_badly_36 : decode cX12_badly 36 = .ok (.iload_n 3, 1) := by decide +kernel
theorem dX12_badly_37 : decode cX12_badly 37 = .ok (.iconst 0, 1) := by decide +kernel
theorem dX12_badly_38 : decode cX12_badly 38 = .ok (.iastore, 1) := by decide +kernel
theorem dX12_badly_39 : decode cX12_badly 39 = .ok (.iinc 3 1, 3) := by decide +kernel
theorem dX12_badly_42 : decode cX12_badly 42 = .ok (.goto (-16), 3) := by decide +kernel
theorem dX12_badly_45 : decode cX12_badly 45 = .ok (.iconst 0, 1) := by decide +kernel
theorem dX12_badly_46 : decode cX12_badly 46 = .ok (.istore_n 3, 1) := by decide +kernel
theorem dX12_badly_47 : decode cX12_badly 47 = .ok (.iload_n 3, 1) := by decide +kernel
theorem dX12_badly_48 : decode cX12_badly 48 = .ok (.aload_n 0, 1) := by decide +kernel
theorem dX12_badly_49 : decode cX12_badly 49 = .ok (.invokevirtual 141, 3) := by decide +kernel
theorem dX12_badly_52 : decode cX12_badly 52 = .ok (.if_icmp .ge 23, 3) := by decide +kernel
theorem dX12_badly_55 : decode cX12_badly 55 = .ok (.aload_n 0, 1) := by decide +kernel
theorem dX12_badly_56 : decode cX12_badly 56 = .ok (.getfield 52, 3) := by decide +kernel
theorem dX12_badly_59 : decode cX12_badly 59 = .ok (.aload_n 0, 1) := by decide +kernel
theorem dX12_badly_60 : decode cX12_badly 60 = .ok (.iload_n 3, 1) := by decide +kernel
theorem dX12_badly_61 : decode cX12_badly 61 = .ok (.invokevirtual 162, 3) := by decide +kernel
theorem dX12_badly_64 : decode cX12_badly 64 = .ok (.dup2, 1) := by decide +kernel
theorem dX12_badly_65 : decode cX12_badly 65 = .ok (.iaload, 1) := by decide +kernel
theorem dX12_badly_66 : decode cX12_badly 66 = .ok (.iconst 1, 1) := by decide +kernel
theorem dX12_badly_67 : decode cX12_badly 67 = .ok (.iadd, 1) := by decide +kernel
theorem dX12_badly_68 : decode cX12_badly 68 = .ok (.iastore, 1) := by decide +kernel
theorem dX12_badly_69 : decode cX12_badly 69 = .ok (.iinc 3 1, 3) := by decide +kernel
theorem dX12_badly_72 : decode cX12_badly 72 = .ok (.goto (-25), 3) := by decide +kernel
theorem dX12_badly_75 : decode cX12_badly 75 = .ok (.iconst 0, 1) := by decide +kernel
theorem dX12_badly_76 : decode cX12_badly 76 = .ok (.istore_n 3, 1) := by decide +kernel
theorem dX12_badly_77 : decode cX12_badly 77 = .ok (.iload_n 3, 1) := by decide +kernel
theorem dX12_badly_78 : decode cX12_badly 78 = .ok (.aload_n 0, 1) := by decide +kernel
theorem dX12_badly_79 : decode cX12_badly 79 = .ok (.invokevirtual 157, 3) := by decide +kernel
theorem dX12_badly_82 : decode cX12_badly 82 = .ok (.if_icmp .ge 20, 3) := by decide +kernel
theorem dX12_badly_85 : decode cX12_badly 85 = .ok (.iload_n 2, 1) := by decide +kernel
theorem dX12_badly_86 : decode cX12_badly 86 = .ok (.aload_n 0, 1) := by decide +kernel
theorem dX12_badly_87 : decode cX12_badly 87 = .ok (.getfield 52, 3) := by decide +kernel
theorem dX12_badly_90 : decode cX12_badly 90 = .ok (.iload_n 3, 1) := by decide +kernel
theorem dX12_badly_91 : decode cX12_badly 91 = .ok (.iaload, 1) := by decide +kernel
theorem dX12_badly_92 : decode cX12_badly 92 = .ok (.iconst 1, 1) := by decide +kernel
theorem dX12_badly_93 : decode cX12_badly 93 = .ok (.iadd, 1) := by decide +kernel
theorem dX12_badly_94 : decode cX12_badly 94 = .ok (.imul, 1) := by decide +kernel
theorem dX12_badly_95 : decode cX12_badly 95 = .ok (.istore_n 2, 1) := by decide +kernel
theorem dX12_badly_96 : decode cX12_badly 96 = .ok (.iinc 3 1, 3) := by decide +kernel
theorem dX12_badly_99 : decode cX12_badly 99 = .ok (.goto (-22), 3) := by decide +kernel
theorem dX12_badly_102 : decode cX12_badly 102 = .ok (.iconst 0, 1) := by decide +kernel
theorem dX12_badly_103 : decode cX12_badly 103 = .ok (.istore_n 3, 1) := by decide +kernel
theorem dX12_badly_104 : decode cX12_badly 104 = .ok (.iconst 0, 1) := by decide +kernel
theorem dX12_badly_105 : decode cX12_badly 105 = .ok (.istore 4, 2) := by decide +kernel
theorem dX12_badly_107 : decode cX12_badly 107 = .ok (.iload 4, 2) := by decide +kernel
theorem dX12_badly_109 : decode cX12_badly 109 = .ok (.iload_n 2, 1) := by decide +kernel
theorem dX12_badly_110 : decode cX12_badly 110 = .ok (.if_icmp .ge 104, 3) := by decide +kernel
theorem dX12_badly_113 : decode cX12_badly 113 = .ok (.iload 4, 2) := by decide +kernel
theorem dX12_badly_115 : decode cX12_badly 115 = .ok (.istore 5, 2) := by decide +kernel
theorem dX12_badly_117 : decode cX12_badly 117 = .ok (.iconst 0, 1) := by decide +kernel
theorem dX12_badly_118 : decode cX12_badly 118 = .ok (.istore 6, 2) := by decide +kernel
theorem dX12_badly_120 : decode cX12_badly 120 = .ok (.iconst 0, 1) := by decide +kernel
theorem dX12_badly_121 : decode cX12_badly 121 = .ok (.istore 7, 2) := by decide +kernel
theorem dX12_badly_123 : decode cX12_badly 123 = .ok (.iload 7, 2) := by decide +kernel
theorem dX12_badly_125 : decode cX12_badly 125 = .ok (.aload_n 0, 1) := by decide +kernel
theorem dX12_badly_126 : decode cX12_badly 126 = .ok (.invokevirtual 157, 3) := by decide +kernel
theorem dX12_badly_129 : decode cX12_badly 129 = .ok (.if_icmp .ge 54, 3) := by decide +kernel
theorem dX12_badly_132 : decode cX12_badly 132 = .ok (.aload_n 0, 1) := by decide +kernel
theorem dX12_badly_133 : decode cX12_badly 133 = .ok (.getfield 46, 3) := by decide +kernel
theorem dX12_badly_136 : decode cX12_badly 136 = .ok (.iload 7, 2) := by decide +kernel
theorem dX12_badly_138 : decode cX12_badly 138 = .ok (.iload 5, 2) := by decide +kernel
theorem dX12_badly_140 : decode cX12_badly 140 = .ok (.aload_n 0, 1) := by decide +kernel
theorem dX12_badly_141 : decode cX12_badly 141 = .ok (.getfield 52, 3) := by decide +kernel
theorem dX12_badly_144 : decode cX12_badly 144 = .ok (.iload 7, 2) := by decide +kernel
theorem dX12_badly_146 : decode cX12_badly 146 = .ok (.iaload, 1) := by decide +kernel
theorem dX12_badly_147 : decode cX12_badly 147 = .ok (.iconst 1, 1) := by decide +kernel
theorem dX12_badly_148 : decode cX12_badly 148 = .ok (.iadd, 1) := by decide +kernel
theorem dX12_badly_149 : decode cX12_badly 149 = .ok (.irem, 1) := by decide +kernel
theorem dX12_badly_150 : decode cX12_badly 150 = .ok (.iastore, 1) := by decide +kernel
theorem dX12_badly_151 : decode cX12_badly 151 = .ok (.iload 5, 2) := by decide +kernel
theorem dX12_badly_153 : decode cX12_badly 153 = .ok (.aload_n 0, 1) := by decide +kernel
theorem dX12_badly_154 : decode cX12_badly 154 = .ok (.getfield 52, 3) := by decide +kernel
theorem dX12_badly_157 : decode cX12_badly 157 = .ok (.iload 7, 2) := by decide +kernel
theorem dX12_badly_159 : decode cX12_badly 159 = .ok (.iaload, 1) := by decide +kernel
theorem dX12_badly_160 : decode cX12_badly 160 = .ok (.iconst 1, 1) := by decide +kernel
theorem dX12_badly_161 : decode cX12_badly 161 = .ok (.iadd, 1) := by decide +kernel
theorem dX12_badly_162 : decode cX12_badly 162 = .ok (.idiv, 1) := by decide +kernel
theorem dX12_badly_163 : decode cX12_badly 163 = .ok (.istore 5, 2) := by decide +kernel
theorem dX12_badly_165 : decode cX12_badly 165 = .ok (.iload 6, 2) := by decide +kernel
theorem dX12_badly_167 : decode cX12_badly 167 = .ok (.aload_n 0, 1) := by decide +kernel
theorem dX12_badly_168 : decode cX12_badly 168 = .ok (.getfield 46, 3) := by decide +kernel
theorem dX12_badly_171 : decode cX12_badly 171 = .ok (.iload 7, 2) := by decide +kernel
theorem dX12_badly_173 : decode cX12_badly 173 = .ok (.iaload, 1) := by decide +kernel
theorem dX12_badly_174 : decode cX12_badly 174 = .ok (.iadd, 1) := by decide +kernel
theorem dX12_badly_175 : decode cX12_badly 175 = .ok (.istore 6, 2) := by decide +kernel
theorem dX12_badly_177 : decode cX12_badly 177 = .ok (.iinc 7 1, 3) := by decide +kernel
theorem dX12_badly_180 : decode cX12_badly 180 = .ok (.goto (-57), 3) := by decide +kernel
theorem dX12_badly_183 : decode cX12_badly 183 = .ok (.iload 6, 2) := by decide +kernel
theorem dX12_badly_185 : decode cX12_badly 185 = .ok (.iload_n 3, 1) := by decide +kernel
theorem dX12_badly_186 : decode cX12_badly 186 = .ok (.if_icmp .le 20, 3) := by decide +kernel
theorem dX12_badly_189 : decode cX12_badly 189 = .ok (.aload_n 0, 1) := by decide +kernel
theorem dX12_badly_190 : decode cX12_badly 190 = .ok (.aload_n 0, 1) := by decide +kernel
theorem dX12_badly_191 : decode cX12_badly 191 = .ok (.invokevirtual 157, 3) := by decide +kernel
theorem dX12_badly_194 : decode cX12_badly 194 = .ok (.iload_n 1, 1) := by decide +kernel
theorem dX12_badly_195 : decode cX12_badly 195 = .ok (.invokevirtual 255, 3) := by decide +kernel
theorem dX12_badly_198 : decode cX12_badly 198 = .ok (.ifCond .ne 8, 3) := by decide +kernel
theorem dX12_badly_201 : decode cX12_badly 201 = .ok (.iload 6, 2) := by decide +kernel
theorem dX12_badly_203 : decode cX12_badly 203 = .ok (.goto 4, 3) := by decide +kernel
theorem dX12_badly_206 : decode cX12_badly 206 = .ok (.iload_n 3, 1) := by decide +kernel
theorem dX12_badly_207 : decode cX12_badly 207 = .ok (.istore_n 3, 1) := by decide +kernel
theorem dX12_badly_208 : decode cX12_badly 208 = .ok (.iinc 4 1, 3) := by decide +kernel
theorem dX12_badly_211 : decode cX12_badly 211 = .ok (.goto (-104), 3) := by decide +kernel
theorem dX12_badly_214 : decode cX12_badly 214 = .ok (.iload_n 3, 1) := by decide +kernel
theorem dX12_badly_215 : decode cX12_badly 215 = .ok (.ireturn, 1) := by decide +kernel
theorem dX12_layAparts_0 : decode cX12_layAparts 0 = .ok (.iconst 0, 1) := by decide +kernel
theorem dX12_layAparts_1 : decode cX12_layAparts 1 = .ok (.istore_n 2, 1) := by decide +kernel
theorem dX12_layAparts_2 : decode cX12_layAparts 2 = .ok (.iload_n 2, 1) := by decide +kernel
theorem dX12_layAparts_3 : decode cX12_layAparts 3 = .ok (.iconst 1, 1) := by decide +kernel
theorem dX12_layAparts_4 : decode cX12_layAparts 4 = .ok (.aload_n 0, 1) := by decide +kernel
theorem dX12_layAparts_5 : decode cX12_layAparts 5 = .ok (.invokevirtual 141, 3) := by decide +kernel
theorem dX12_layAparts_8 : decode cX12_layAparts 8 = .ok (.ishl, 1) := by decide +kernel
theorem dX12_layAparts_9 : decode cX12_layAparts 9 = .ok (.if_icmp .ge 21, 3) := by decide +kernel
theorem dX12_layAparts_12 : decode cX12_layAparts 12 = .ok (.aload_n 0, 1) := by decide +kernel
theorem dX12_layAparts_13 : decode cX12_layAparts 13 = .ok (.getfield 58, 3) := by decide +kernel
theorem dX12_layAparts_16 : decode cX12_layAparts 16 = .ok (.iload_n 2, 1) := by decide +kernel
theorem dX12_layAparts_17 : decode cX12_layAparts 17 = .ok (.aload_n 0, 1) := by decide +kernel
theorem dX12_layAparts_18 : decode cX12_layAparts 18 = .ok (.iload_n 2, 1) := by decide +kernel
theorem dX12_layAparts_19 : decode cX12_layAparts 19 = .ok (.iload_n 1, 1) := by decide +kernel
theorem dX12_layAparts_20 : decode cX12_layAparts 20 = .ok (.invokevirtual 185, 3) := by decide +kernel
theorem dX12_layAparts_23 : decode cX12_layAparts 23 = .ok (.bastore, 1) := by decide +kernel
theorem dX12_layAparts_24 : decode cX12_layAparts 24 = .ok (.iinc 2 1, 3) := by decide +kernel
theorem dX12_layAparts_27 : decode cX12_layAparts 27 = .ok (.goto (-25), 3) := by decide +kernel
theorem dX12_layAparts_30 : decode cX12_layAparts 30 = .ok (.aload_n 0, 1) := by decide +kernel
theorem dX12_layAparts_31 : decode cX12_layAparts 31 = .ok (.getfield 55, 3) := by decide +kernel
theorem dX12_layAparts_34 : decode cX12_layAparts 34 = .ok (.iconst 0, 1) := by decide +kernel
theorem dX12_layAparts_35 : decode cX12_layAparts 35 = .ok (.iconst 0, 1) := by decide +kernel
theorem dX12_layAparts_36 : decode cX12_layAparts 36 = .ok (.iastore, 1) := by decide +kernel
theorem dX12_layAparts_37 : decode cX12_layAparts 37 = .ok (.iconst 1, 1) := by decide +kernel
theorem dX12_layAparts_38 : decode cX12_layAparts 38 = .ok (.istore_n 2, 1) := by decide +kernel
theorem dX12_layAparts_39 : decode cX12_layAparts 39 = .ok (.iload_n 2, 1) := by decide +kernel
theorem dX12_layAparts_40 : decode cX12_layAparts 40 = .ok (.iconst 1, 1) := by decide +kernel
theorem dX12_layAparts_41 : decode cX12_layAparts 41 = .ok (.aload_n 0, 1) := by decide +kernel
theorem dX12_layAparts_42 : decode cX12_layAparts 42 = .ok (.invokevirtual 141, 3) := by decide +kernel
theorem dX12_layAparts_45 : decode cX12_layAparts 45 = .ok (.ishl, 1) := by decide +kernel
theorem dX12_layAparts_46 : decode cX12_layAparts 46 = .ok (.if_icmp .ge 101, 3) := by decide +kernel
theorem dX12_layAparts_49 : decode cX12_layAparts 49 = .ok (.iload_n 2, 1) := by decide +kernel
theorem dX12_layAparts_50 : decode cX12_layAparts 50 = .ok (.iload_n 2, 1) := by decide +kernel
theorem dX12_layAparts_51 : decode cX12_layAparts 51 = .ok (.ineg, 1) := by decide +kernel
theorem dX12_layAparts_52 : decode cX12_layAparts 52 = .ok (.iand, 1) := by decide +kernel
theorem dX12_layAparts_53 : decode cX12_layAparts 53 = .ok (.istore_n 3, 1) := by decide +kernel
theorem dX12_layAparts_54 : decode cX12_layAparts 54 = .ok (.aload_n 0, 1) := by decide +kernel
theorem dX12_layAparts_55 : decode cX12_layAparts 55 = .ok (.getfield 55, 3) := by decide +kernel
theorem dX12_layAparts_58 : decode cX12_layAparts 58 = .ok (.iload_n 2, 1) := by decide +kernel
theorem dX12_layAparts_59 : decode cX12_layAparts 59 = .ok (.iload_n 3, 1) := by decide +kernel
theorem dX12_layAparts_60 : decode cX12_layAparts 60 = .ok (.ixor, 1) := by decide +kernel
theorem dX12_layAparts_61 : decode cX12_layAparts 61 = .ok (.iaload, 1) := by decide +kernel
theorem dX12_layAparts_62 : decode cX12_layAparts 62 = .ok (.istore 4, 2) := by decide +kernel
theorem dX12_layAparts_64 : decode cX12_layAparts 64 = .ok (.iload_n 2, 1) := by decide +kernel
theorem dX12_layAparts_65 : decode cX12_layAparts 65 = .ok (.istore 5, 2) := by decide +kernel
theorem dX12_layAparts_67 : decode cX12_layAparts 67 = .ok (.iload 5, 2) := by decide +kernel
theorem dX12_layAparts_69 : decode cX12_layAparts 69 = .ok (.ifCond .le 64, 3) := by decide +kernel
theorem dX12_layAparts_72 : decode cX12_layAparts 72 = .ok (.iload 5, 2) := by decide +kernel
theorem dX12_layAparts_74 : decode cX12_layAparts 74 = .ok (.iload_n 3, 1) := by decide +kernel
theorem dX12_layAparts_75 : decode cX12_layAparts 75 = .ok (.iand, 1) := by decide +kernel
theorem dX12_layAparts_76 : decode cX12_layAparts 76 = .ok (.ifCond .eq 27, 3) := by decide +kernel
theorem dX12_layAparts_79 : decode cX12_layAparts 79 = .ok (.aload_n 0, 1) := by decide +kernel
theorem dX12_layAparts_80 : decode cX12_layAparts 80 = .ok (.getfield 58, 3) := by decide +kernel
theorem dX12_layAparts_83 : decode cX12_layAparts 83 = .ok (.iload 5, 2) := by decide +kernel
theorem dX12_layAparts_85 : decode cX12_layAparts 85 = .ok (.baload, 1) := by decide +kernel
theorem dX12_layAparts_86 : decode cX12_layAparts 86 = .ok (.ifCond .eq 17, 3) := by decide +kernel
theorem dX12_layAparts_89 : decode cX12_layAparts 89 = .ok (.aload_n 0, 1) := by decide +kernel
theorem dX12_layAparts_90 : decode cX12_layAparts 90 = .ok (.getfield 55, 3) := by decide +kernel
theorem dX12_layAparts_93 : decode cX12_layAparts 93 = .ok (.iload_n 2, 1) := by decide +kernel
theorem dX12_layAparts_94 : decode cX12_layAparts 94 = .ok (.iload 5, 2) := by decide +kernel
theorem dX12_layAparts_96 : decode cX12_layAparts 96 = .ok (.ixor, 1) := by decide +kernel
theorem dX12_layAparts_97 : decode cX12_layAparts 97 = .ok (.iaload, 1) := by decide +kernel
theorem dX12_layAparts_98 : decode cX12_layAparts 98 = .ok (.iconst 1, 1) := by decide +kernel
theorem dX12_layAparts_99 : decode cX12_layAparts 99 = .ok (.iadd, 1) := by decide +kernel
theorem dX12_layAparts_100 : decode cX12_layAparts 100 = .ok (.goto 4, 3) := by decide +kernel
theorem dX12_layAparts_103 : decode cX12_layAparts 103 = .ok (.iconst 0, 1) := by decide +kernel
theorem dX12_layAparts_104 : decode cX12_layAparts 104 = .ok (.istore 6, 2) := by decide +kernel
theorem dX12_layAparts_106 : decode cX12_layAparts 106 = .ok (.iload 6, 2) := by decide +kernel
theorem dX12_layAparts_108 : decode cX12_layAparts 108 = .ok (.iload 4, 2) := by decide +kernel
theorem dX12_layAparts_110 : decode cX12_layAparts 110 = .ok (.if_icmp .le 8, 3) := by decide +kernel
theorem dX12_layAparts_113 : decode cX12_layAparts 113 = .ok (.iload 6, 2) := by decide +kernel
theorem dX12_layAparts_115 : decode cX12_layAparts 115 = .ok (.goto 5, 3) := by decide +kernel
theorem dX12_layAparts_118 : decode cX12_layAparts 118 = .ok (.iload 4, 2) := by decide +kernel
theorem dX12_layAparts_120 : decode cX12_layAparts 120 = .ok (.istore 4, 2) := by decide +kernel
theorem dX12_layAparts_122 : decode cX12_layAparts 122 = .ok (.iload 5, 2) := by decide +kernel
theorem dX12_layAparts_124 : decode cX12_layAparts 124 = .ok (.iconst 1, 1) := by decide +kernel
theorem dX12_layAparts_125 : decode cX12_layAparts 125 = .ok (.isub, 1) := by decide +kernel
theorem dX12_layAparts_126 : decode cX12_layAparts 126 = .ok (.iload_n 2, 1) := by decide +kernel
theorem dX12_layAparts_127 : decode cX12_layAparts 127 = .ok (.iand, 1) := by decide +kernel
theorem dX12_layAparts_128 : decode cX12_layAparts 128 = .ok (.istore 5, 2) := by decide +kernel
theorem dX12_layAparts_130 : decode cX12_layAparts 130 = .ok (.goto (-63), 3) := by decide +kernel
theorem dX12_layAparts_133 : decode cX12_layAparts 133 = .ok (.aload_n 0, 1) := by decide +kernel
theorem dX12_layAparts_134 : decode cX12_layAparts 134 = .ok (.getfield 55, 3) := by decide +kernel
theorem dX12_layAparts_137 : decode cX12_layAparts 137 = .ok (.iload_n 2, 1) := by decide +kernel
theorem dX12_layAparts_138 : decode cX12_layAparts 138 = .ok (.iload 4, 2) := by decide +kernel
theorem dX12_layAparts_140 : decode cX12_layAparts 140 = .ok (.iastore, 1) := by decide +kernel
theorem dX12_layAparts_141 : decode cX12_layAparts 141 = .ok (.iinc 2 1, 3) := by decide +kernel
theorem dX12_layAparts_144 : decode cX12_layAparts 144 = .ok (.goto (-105), 3) := by decide +kernel
theorem dX12_layAparts_147 : decode cX12_layAparts 147 = .ok (.return_, 1) := by decide +kernel
theorem dX12_isAhead_0 : decode cX12_isAhead 0 = .ok (.iload_n 0, 1) := by decide +kernel
theorem dX12_isAhead_1 : decode cX12_isAhead 1 = .ok (.iload_n 1, 1) := by decide +kernel
theorem dX12_isAhead_2 : decode cX12_isAhead 2 = .ok (.ixor, 1) := by decide +kernel
theorem dX12_isAhead_3 : decode cX12_isAhead 3 = .ok (.istore_n 2, 1) := by decide +kernel
theorem dX12_isAhead_4 : decode cX12_isAhead 4 = .ok (.iload_n 0, 1) := by decide +kernel
theorem dX12_isAhead_5 : decode cX12_isAhead 5 = .ok (.iload_n 2, 1) := by decide +kernel
theorem dX12_isAhead_6 : decode cX12_isAhead 6 = .ok (.iand, 1) := by decide +kernel
theorem dX12_isAhead_7 : decode cX12_isAhead 7 = .ok (.iload_n 2, 1) := by decide +kernel
theorem dX12_isAhead_8 : decode cX12_isAhead 8 = .ok (.ineg, 1) := by decide +kernel
theorem dX12_isAhead_9 : decode cX12_isAhead 9 = .ok (.iand, 1) := by decide +kernel
theorem dX12_isAhead_10 : decode cX12_isAhead 10 = .ok (.ifCond .eq 7, 3) := by decide +kernel
theorem dX12_isAhead_13 : decode cX12_isAhead 13 = .ok (.iconst 1, 1) := by decide +kernel
theorem dX12_isAhead_14 : decode cX12_isAhead 14 = .ok (.goto 4, 3) := by decide +kernel
theorem dX12_isAhead_17 : decode cX12_isAhead 17 = .ok (.iconst 0, 1) := by decide +kernel
theorem dX12_isAhead_18 : decode cX12_isAhead 18 = .ok (.ireturn, 1) := by decide +kernel
theorem dX12_apart_0 : decode cX12_apart 0 = .ok (.iload_n 1, 1) := by decide +kernel
theorem dX12_apart_1 : decode cX12_apart 1 = .ok (.invokestatic 198, 3) := by decide +kernel
theorem dX12_apart_4 : decode cX12_apart 4 = .ok (.ifCond .eq 8, 3) := by decide +kernel
theorem dX12_apart_7 : decode cX12_apart 7 = .ok (.iload_n 2, 1) := by decide +kernel
theorem dX12_apart_8 : decode cX12_apart 8 = .ok (.iconst (-1), 1) := by decide +kernel
theorem dX12_apart_9 : decode cX12_apart 9 = .ok (.if_icmp .ge 6, 3) := by decide +kernel
theorem dX12_apart_12 : decode cX12_apart 12 = .ok (.bipush (-3), 2) := by decide +kernel
theorem dX12_apart_14 : decode cX12_apart 14 = .ok (.ireturn, 1) := by decide +kernel
theorem dX12_apart_15 : decode cX12_apart 15 = .ok (.aload_n 0, 1) := by decide +kernel
theorem dX12_apart_16 : decode cX12_apart 16 = .ok (.invokevirtual 141, 3) := by decide +kernel
theorem dX12_apart_19 : decode cX12_apart 19 = .ok (.bipush 12, 2) := by decide +kernel
theorem dX12_apart_21 : decode cX12_apart 21 = .ok (.if_icmp .le 6, 3) := by decide +kernel
theorem dX12_apart_24 : decode cX12_apart 24 = .ok (.bipush (-4), 2) := by decide +kernel
theorem dX12_apart_26 : decode cX12_apart 26 = .ok (.ireturn, 1) := by decide +kernel
theorem dX12_apart_27 : decode cX12_apart 27 = .ok (.aload_n 0, 1) := by decide +kernel
theorem dX12_apart_28 : decode cX12_apart 28 = .ok (.iload_n 1, 1) := by decide +kernel
theorem dX12_apart_29 : decode cX12_apart 29 = .ok (.invokevirtual 265, 3) := by decide +kernel
theorem dX12_apart_32 : decode cX12_apart 32 = .ok (.iconst 1, 1) := by decide +kernel
theorem dX12_apart_33 : decode cX12_apart 33 = .ok (.aload_n 0, 1) := by decide +kernel
theorem dX12_apart_34 : decode cX12_apart 34 = .ok (.invokevirtual 141, 3) := by decide +kernel
theorem dX12_apart_37 : decode cX12_apart 37 = .ok (.ishl, 1) := by decide +kernel
theorem dX12_apart_38 : decode cX12_apart 38 = .ok (.iconst 1, 1) := by decide +kernel
theorem dX12_apart_39 : decode cX12_apart 39 = .ok (.isub, 1) := by decide +kernel
theorem dX12_apart_40 : decode cX12_apart 40 = .ok (.istore_n 3, 1) := by decide +kernel
theorem dX12_apart_41 : decode cX12_apart 41 = .ok (.aload_n 0, 1) := by decide +kernel
theorem dX12_apart_42 : decode cX12_apart 42 = .ok (.getfield 55, 3) := by decide +kernel
theorem dX12_apart_45 : decode cX12_apart 45 = .ok (.iload_n 3, 1) := by decide +kernel
theorem dX12_apart_46 : decode cX12_apart 46 = .ok (.iaload, 1) := by decide +kernel
theorem dX12_apart_47 : decode cX12_apart 47 = .ok (.istore 4, 2) := by decide +kernel
theorem dX12_apart_49 : decode cX12_apart 49 = .ok (.iload_n 2, 1) := by decide +kernel
theorem dX12_apart_50 : decode cX12_apart 50 = .ok (.iconst (-1), 1) := by decide +kernel
theorem dX12_apart_51 : decode cX12_apart 51 = .ok (.if_icmp .eq 9, 3) := by decide +kernel
theorem dX12_apart_54 : decode cX12_apart 54 = .ok (.iload_n 2, 1) := by decide +kernel
theorem dX12_apart_55 : decode cX12_apart 55 = .ok (.iload 4, 2) := by decide +kernel
theorem dX12_apart_57 : decode cX12_apart 57 = .ok (.if_icmp .lt 15, 3) := by decide +kernel
theorem dX12_apart_60 : decode cX12_apart 60 = .ok (.iload_n 2, 1) := by decide +kernel
theorem dX12_apart_61 : decode cX12_apart 61 = .ok (.iconst (-1), 1) := by decide +kernel
theorem dX12_apart_62 : decode cX12_apart 62 = .ok (.if_icmp .ne 8, 3) := by decide +kernel
theorem dX12_apart_65 : decode cX12_apart 65 = .ok (.iload 4, 2) := by decide +kernel
theorem dX12_apart_67 : decode cX12_apart 67 = .ok (.goto 4, 3) := by decide +kernel
theorem dX12_apart_70 : decode cX12_apart 70 = .ok (.iconst (-1), 1) := by decide +kernel
theorem dX12_apart_71 : decode cX12_apart 71 = .ok (.ireturn, 1) := by decide +kernel
theorem dX12_apart_72 : decode cX12_apart 72 = .ok (.iconst 0, 1) := by decide +kernel
theorem dX12_apart_73 : decode cX12_apart 73 = .ok (.istore 5, 2) := by decide +kernel
theorem dX12_apart_75 : decode cX12_apart 75 = .ok (.iconst 0, 1) := by decide +kernel
theorem dX12_apart_76 : decode cX12_apart 76 = .ok (.istore 6, 2) := by decide +kernel
theorem dX12_apart_78 : decode cX12_apart 78 = .ok (.iload 6, 2) := by decide +kernel
theorem dX12_apart_80 : decode cX12_apart 80 = .ok (.iload_n 2, 1) := by decide +kernel
theorem dX12_apart_81 : decode cX12_apart 81 = .ok (.if_icmp .gt 93, 3) := by decide +kernel
theorem dX12_apart_84 : decode cX12_apart 84 = .ok (.iconst 0, 1) := by decide +kernel
theorem dX12_apart_85 : decode cX12_apart 85 = .ok (.istore 7, 2) := by decide +kernel
theorem dX12_apart_87 : decode cX12_apart 87 = .ok (.iload_n 3, 1) := by decide +kernel
theorem dX12_apart_88 : decode cX12_apart 88 = .ok (.istore 8, 2) := by decide +kernel
theorem dX12_apart_90 : decode cX12_apart 90 = .ok (.iload 8, 2) := by decide +kernel
theorem dX12_apart_92 : decode cX12_apart 92 = .ok (.ifCond .le 67, 3) := by decide +kernel
theorem dX12_apart_95 : decode cX12_apart 95 = .ok (.aload_n 0, 1) := by decide +kernel
theorem dX12_apart_96 : decode cX12_apart 96 = .ok (.getfield 58, 3) := by decide +kernel
theorem dX12_apart_99 : decode cX12_apart 99 = .ok (.iload 8, 2) := by decide +kernel
theorem dX12_apart_101 : decode cX12_apart 101 = .ok (.baload, 1) := by decide +kernel
theorem dX12_apart_102 : decode cX12_apart 102 = .ok (.ifCond .eq 42, 3) := by decide +kernel
theorem dX12_apart_105 : decode cX12_apart 105 = .ok (.aload_n 0, 1) := by decide +kernel
theorem dX12_apart_106 : decode cX12_apart 106 = .ok (.getfield 55, 3) := by decide +kernel
theorem dX12_apart_109 : decode cX12_apart 109 = .ok (.iload_n 3, 1) := by decide +kernel
theorem dX12_apart_110 : decode cX12_apart 110 = .ok (.iload 8, 2) := by decide +kernel
theorem dX12_apart_112 : decode cX12_apart 112 = .ok (.ixor, 1) := by decide +kernel
theorem dX12_apart_113 : decode cX12_apart 113 = .ok (.iaload, 1) := by decide +kernel
theorem dX12_apart_114 : decode cX12_apart 114 = .ok (.iload 4, 2) := by decide +kernel
theorem dX12_apart_116 : decode cX12_apart 116 = .ok (.iload 6, 2) := by decide +kernel
theorem dX12_apart_118 : decode cX12_apart 118 = .ok (.isub, 1) := by decide +kernel
theorem dX12_apart_119 : decode cX12_apart 119 = .ok (.iconst 1, 1) := by decide +kernel
theorem dX12_apart_120 : decode cX12_apart 120 = .ok (.isub, 1) := by decide +kernel
theorem dX12_apart_121 : decode cX12_apart 121 = .ok (.if_icmp .ne 23, 3) := by decide +kernel
theorem dX12_apart_124 : decode cX12_apart 124 = .ok (.iload 7, 2) := by decide +kernel
theorem dX12_apart_126 : decode cX12_apart 126 = .ok (.ifCond .eq 13, 3) := by decide +kernel
theorem dX12_apart_129 : decode cX12_apart 129 = .ok (.iload 8, 2) := by decide +kernel
theorem dX12_apart_131 : decode cX12_apart 131 = .ok (.iload 7, 2) := by decide +kernel
theorem dX12_apart_133 : decode cX12_apart 133 = .ok (.invokestatic 268, 3) := by decide +kernel
theorem dX12_apart_136 : decode cX12_apart 136 = .ok (.ifCond .eq 8, 3) := by decide +kernel
theorem dX12_apart_139 : decode cX12_apart 139 = .ok (.iload 8, 2) := by decide +kernel
theorem dX12_apart_141 : decode cX12_apart 141 = .ok (.goto 5, 3) := by decide +kernel
theorem dX12_apart_144 : decode cX12_apart 144 = .ok (.iload 7, 2) := by decide +kernel
theorem dX12_apart_146 : decode cX12_apart 146 = .ok (.istore 7, 2) := by decide +kernel
theorem dX12_apart_148 : decode cX12_apart 148 = .ok (.iload 8, 2) := by decide +kernel
theorem dX12_apart_150 : decode cX12_apart 150 = .ok (.iconst 1, 1) := by decide +kernel
theorem dX12_apart_151 : decode cX12_apart 151 = .ok (.isub, 1) := by decide +kernel
theorem dX12_apart_152 : decode cX12_apart 152 = .ok (.iload_n 3, 1) := by decide +kernel
theorem dX12_apart_153 : decode cX12_apart 153 = .ok (.iand, 1) := by decide +kernel
theorem dX12_apart_154 : decode cX12_apart 154 = .ok (.istore 8, 2) := by decide +kernel
theorem dX12_apart_156 : decode cX12_apart 156 = .ok (.goto (-66), 3) := by decide +kernel
theorem dX12_apart_159 : decode cX12_apart 159 = .ok (.iload 7, 2) := by decide +kernel
theorem dX12_apart_161 : decode cX12_apart 161 = .ok (.istore 5, 2) := by decide +kernel
theorem dX12_apart_163 : decode cX12_apart 163 = .ok (.iload_n 3, 1) := by decide +kernel
theorem dX12_apart_164 : decode cX12_apart 164 = .ok (.iload 5, 2) := by decide +kernel
theorem dX12_apart_166 : decode cX12_apart 166 = .ok (.ixor, 1) := by decide +kernel
theorem dX12_apart_167 : decode cX12_apart 167 = .ok (.istore_n 3, 1) := by decide +kernel
theorem dX12_apart_168 : decode cX12_apart 168 = .ok (.iinc 6 1, 3) := by decide +kernel
theorem dX12_apart_171 : decode cX12_apart 171 = .ok (.goto (-93), 3) := by decide +kernel
theorem dX12_apart_174 : decode cX12_apart 174 = .ok (.iload 5, 2) := by decide +kernel
theorem dX12_apart_176 : decode cX12_apart 176 = .ok (.ireturn, 1) := by decide +kernel
theorem dX12_takenBy_0 : decode cX12_takenBy 0 = .ok (.iconst 0, 1) := by decide +kernel
theorem dX12_takenBy_1 : decode cX12_takenBy 1 = .ok (.istore_n 3, 1) := by decide +kernel
theorem dX12_takenBy_2 : decode cX12_takenBy 2 = .ok (.iload_n 1, 1) := by decide +kernel
theorem dX12_takenBy_3 : decode cX12_takenBy 3 = .ok (.istore 4, 2) := by decide +kernel
theorem dX12_takenBy_5 : decode cX12_takenBy 5 = .ok (.iconst 0, 1) := by decide +kernel
theorem dX12_takenBy_6 : decode cX12_takenBy 6 = .ok (.istore 5, 2) := by decide +kernel
theorem dX12_takenBy_8 : decode cX12_takenBy 8 = .ok (.iload 5, 2) := by decide +kernel
theorem dX12_takenBy_10 : decode cX12_takenBy 10 = .ok (.aload_n 0, 1) := by decide +kernel
theorem dX12_takenBy_11 : decode cX12_takenBy 11 = .ok (.invokevirtual 141, 3) := by decide +kernel
theorem dX12_takenBy_14 : decode cX12_takenBy 14 = .ok (.if_icmp .ge 34, 3) := by decide +kernel
theorem dX12_takenBy_17 : decode cX12_takenBy 17 = .ok (.iload_n 3, 1) := by decide +kernel
theorem dX12_takenBy_18 : decode cX12_takenBy 18 = .ok (.iload 4, 2) := by decide +kernel
theorem dX12_takenBy_20 : decode cX12_takenBy 20 = .ok (.iconst 3, 1) := by decide +kernel
theorem dX12_takenBy_21 : decode cX12_takenBy 21 = .ok (.irem, 1) := by decide +kernel
theorem dX12_takenBy_22 : decode cX12_takenBy 22 = .ok (.iload_n 2, 1) := by decide +kernel
theorem dX12_takenBy_23 : decode cX12_takenBy 23 = .ok (.if_icmp .ne 10, 3) := by decide +kernel
theorem dX12_takenBy_26 : decode cX12_takenBy 26 = .ok (.iconst 1, 1) := by decide +kernel
theorem dX12_takenBy_27 : decode cX12_takenBy 27 = .ok (.iload 5, 2) := by decide +kernel
theorem dX12_takenBy_29 : decode cX12_takenBy 29 = .ok (.ishl, 1) := by decide +kernel
theorem dX12_takenBy_30 : decode cX12_takenBy 30 = .ok (.goto 4, 3) := by decide +kernel
theorem dX12_takenBy_33 : decode cX12_takenBy 33 = .ok (.iconst 0, 1) := by decide +kernel
theorem dX12_takenBy_34 : decode cX12_takenBy 34 = .ok (.ior, 1) := by decide +kernel
theorem dX12_takenBy_35 : decode cX12_takenBy 35 = .ok (.istore_n 3, 1) := by decide +kernel
theorem dX12_takenBy_36 : decode cX12_takenBy 36 = .ok (.iload 4, 2) := by decide +kernel
theorem dX12_takenBy_38 : decode cX12_takenBy 38 = .ok (.iconst 3, 1) := by decide +kernel
theorem dX12_takenBy_39 : decode cX12_takenBy 39 = .ok (.idiv, 1) := by decide +kernel
theorem dX12_takenBy_40 : decode cX12_takenBy 40 = .ok (.istore 4, 2) := by decide +kernel
theorem dX12_takenBy_42 : decode cX12_takenBy 42 = .ok (.iinc 5 1, 3) := by decide +kernel
theorem dX12_takenBy_45 : decode cX12_takenBy 45 = .ok (.goto (-37), 3) := by decide +kernel
theorem dX12_takenBy_48 : decode cX12_takenBy 48 = .ok (.iload_n 3, 1) := by decide +kernel
theorem dX12_takenBy_49 : decode cX12_takenBy 49 = .ok (.ireturn, 1) := by decide +kernel
theorem dX12_unitOf_0 : decode cX12_unitOf 0 = .ok (.iconst 1, 1) := by decide +kernel
theorem dX12_unitOf_1 : decode cX12_unitOf 1 = .ok (.istore_n 1, 1) := by decide +kernel
theorem dX12_unitOf_2 : decode cX12_unitOf 2 = .ok (.iconst 0, 1) := by decide +kernel
theorem dX12_unitOf_3 : decode cX12_unitOf 3 = .ok (.istore_n 2, 1) := by decide +kernel
theorem dX12_unitOf_4 : decode cX12_unitOf 4 = .ok (.iload_n 2, 1) := by decide +kernel
theorem dX12_unitOf_5 : decode cX12_unitOf 5 = .ok (.iload_n 0, 1) := by decide +kernel
theorem dX12_unitOf_6 : decode cX12_unitOf 6 = .ok (.if_icmp .ge 13, 3) := by decide +kernel
theorem dX12_unitOf_9 : decode cX12_unitOf 9 = .ok (.iload_n 1, 1) := by decide +kernel
theorem dX12_unitOf_10 : decode cX12_unitOf 10 = .ok (.iconst 3, 1) := by decide +kernel
theorem dX12_unitOf_11 : decode cX12_unitOf 11 = .ok (.imul, 1) := by decide +kernel
theorem dX12_unitOf_12 : decode cX12_unitOf 12 = .ok (.istore_n 1, 1) := by decide +kernel
theorem dX12_unitOf_13 : decode cX12_unitOf 13 = .ok (.iinc 2 1, 3) := by decide +kernel
theorem dX12_unitOf_16 : decode cX12_unitOf 16 = .ok (.goto (-12), 3) := by decide +kernel
theorem dX12_unitOf_19 : decode cX12_unitOf 19 = .ok (.iload_n 1, 1) := by decide +kernel
theorem dX12_unitOf_20 : decode cX12_unitOf 20 = .ok (.ireturn, 1) := by decide +kernel
theorem dX12_hasLot_0 : decode cX12_hasLot 0 = .ok (.iconst 0, 1) := by decide +kernel
theorem dX12_hasLot_1 : decode cX12_hasLot 1 = .ok (.istore_n 3, 1) := by decide +kernel
theorem dX12_hasLot_2 : decode cX12_hasLot 2 = .ok (.iload_n 1, 1) := by decide +kernel
theorem dX12_hasLot_3 : decode cX12_hasLot 3 = .ok (.istore 4, 2) := by decide +kernel
theorem dX12_hasLot_5 : decode cX12_hasLot 5 = .ok (.iload 4, 2) := by decide +kernel
theorem dX12_hasLot_7 : decode cX12_hasLot 7 = .ok (.ifCond .le 26, 3) := by decide +kernel
theorem dX12_hasLot_10 : decode cX12_hasLot 10 = .ok (.iload_n 3, 1) := by decide +kernel
theorem dX12_hasLot_11 : decode cX12_hasLot 11 = .ok (.ifCond .ne 22, 3) := by decide +kernel
theorem dX12_hasLot_14 : decode cX12_hasLot 14 = .ok (.aload_n 0, 1) := by decide +kernel
theorem dX12_hasLot_15 : decode cX12_hasLot 15 = .ok (.iload 4, 2) := by decide +kernel
theorem dX12_hasLot_17 : decode cX12_hasLot 17 = .ok (.iload_n 2, 1) := by decide +kernel
theorem dX12_hasLot_18 : decode cX12_hasLot 18 = .ok (.invokevirtual 185, 3) := by decide +kernel
theorem dX12_hasLot_21 : decode cX12_hasLot 21 = .ok (.istore_n 3, 1) := by decide +kernel
theorem dX12_hasLot_22 : decode cX12_hasLot 22 = .ok (.iload 4, 2) := by decide +kernel
theorem dX12_hasLot_24 : decode cX12_hasLot 24 = .ok (.iconst 1, 1) := by decide +kernel
theorem dX12_hasLot_25 : decode cX12_hasLot 25 = .ok (.isub, 1) := by decide +kernel
theorem dX12_hasLot_26 : decode cX12_hasLot 26 = .ok (.iload_n 1, 1) := by decide +kernel
theorem dX12_hasLot_27 : decode cX12_hasLot 27 = .ok (.iand, 1) := by decide +kernel
theorem dX12_hasLot_28 : decode cX12_hasLot 28 = .ok (.istore 4, 2) := by decide +kernel
theorem dX12_hasLot_30 : decode cX12_hasLot 30 = .ok (.goto (-25), 3) := by decide +kernel
theorem dX12_hasLot_33 : decode cX12_hasLot 33 = .ok (.iload_n 3, 1) := by decide +kernel
theorem dX12_hasLot_34 : decode cX12_hasLot 34 = .ok (.ireturn, 1) := by decide +kernel
theorem dX12_layWorths_0 : decode cX12_layWorths 0 = .ok (.aload_n 0, 1) := by decide +kernel
theorem dX12_layWorths_1 : decode cX12_layWorths 1 = .ok (.invokevirtual 141, 3) := by decide +kernel
theorem dX12_layWorths_4 : decode cX12_layWorths 4 = .ok (.istore_n 2, 1) := by decide +kernel
theorem dX12_layWorths_5 : decode cX12_layWorths 5 = .ok (.iconst 0, 1) := by decide +kernel
theorem dX12_layWorths_6 : decode cX12_layWorths 6 = .ok (.istore_n 3, 1) := by decide +kernel
theorem dX12_layWorths_7 : decode cX12_layWorths 7 = .ok (.iload_n 3, 1) := by decide +kernel
theorem dX12_layWorths_8 : decode cX12_layWorths 8 = .ok (.iconst 1, 1) := by decide +kernel
theorem dX12_layWorths_9 : decode cX12_layWorths 9 = .ok (.iload_n 2, 1) := by decide +kernel
theorem dX12_layWorths_10 : decode cX12_layWorths 10 = .ok (.ishl, 1) := by decide +kernel
theorem dX12_layWorths_11 : decode cX12_layWorths 11 = .ok (.if_icmp .ge 21, 3) := by decide +kernel
theorem dX12_layWorths_14 : decode cX12_layWorths 14 = .ok (.aload_n 0, 1) := by decide +kernel
theorem dX12_layWorths_15 : decode cX12_layWorths 15 = .ok (.getfield 64, 3) := by decide +kernel
theorem dX12_layWorths_18 : decode cX12_layWorths 18 = .ok (.iload_n 3, 1) := by decide +kernel
theorem dX12_layWorths_19 : decode cX12_layWorths 19 = .ok (.aload_n 0, 1) := by decide +kernel
theorem dX12_layWorths_20 : decode cX12_layWorths 20 = .ok (.iload_n 3, 1) := by decide +kernel
theorem dX12_layWorths_21 : decode cX12_layWorths 21 = .ok (.iload_n 1, 1) := by decide +kernel
theorem dX12_layWorths_22 : decode cX12_layWorths 22 = .ok (.invokevirtual 271, 3) := by decide +kernel
theorem dX12_layWorths_25 : decode cX12_layWorths 25 = .ok (.bastore, 1) := by decide +kernel
theorem dX12_layWorths_26 : decode cX12_layWorths 26 = .ok (.iinc 3 1, 3) := by decide +kernel
theorem dX12_layWorths_29 : decode cX12_layWorths 29 = .ok (.goto (-22), 3) := by decide +kernel
theorem dX12_layWorths_32 : decode cX12_layWorths 32 = .ok (.iload_n 2, 1) := by decide +kernel
theorem dX12_layWorths_33 : decode cX12_layWorths 33 = .ok (.istore_n 3, 1) := by decide +kernel
theorem dX12_layWorths_34 : decode cX12_layWorths 34 = .ok (.iload_n 3, 1) := by decide +kernel
theorem dX12_layWorths_35 : decode cX12_layWorths 35 = .ok (.ifCond .lt 133, 3) := by decide +kernel
theorem dX12_layWorths_38 : decode cX12_layWorths 38 = .ok (.iconst 0, 1) := by decide +kernel
theorem dX12_layWorths_39 : decode cX12_layWorths 39 = .ok (.istore 4, 2) := by decide +kernel
theorem dX12_layWorths_41 : decode cX12_layWorths 41 = .ok (.iload 4, 2) := by decide +kernel
theorem dX12_layWorths_43 : decode cX12_layWorths 43 = .ok (.iload_n 2, 1) := by decide +kernel
theorem dX12_layWorths_44 : decode cX12_layWorths 44 = .ok (.invokestatic 274, 3) := by decide +kernel
theorem dX12_layWorths_47 : decode cX12_layWorths 47 = .ok (.if_icmp .ge 115, 3) := by decide +kernel
theorem dX12_layWorths_50 : decode cX12_layWorths 50 = .ok (.aload_n 0, 1) := by decide +kernel
theorem dX12_layWorths_51 : decode cX12_layWorths 51 = .ok (.iload 4, 2) := by decide +kernel
theorem dX12_layWorths_53 : decode cX12_layWorths 53 = .ok (.iconst 1, 1) := by decide +kernel
theorem dX12_layWorths_54 : decode cX12_layWorths 54 = .ok (.invokevirtual 277, 3) := by decide +kernel
theorem dX12_layWorths_57 : decode cX12_layWorths 57 = .ok (.istore 5, 2) := by decide +kernel
theorem dX12_layWorths_59 : decode cX12_layWorths 59 = .ok (.aload_n 0, 1) := by decide +kernel
theorem dX12_layWorths_60 : decode cX12_layWorths 60 = .ok (.iload 4, 2) := by decide +kernel
theorem dX12_layWorths_62 : decode cX12_layWorths 62 = .ok (.iconst 2, 1) := by decide +kernel
theorem dX12_layWorths_63 : decode cX12_layWorths 63 = .ok (.invokevirtual 277, 3) := by decide +kernel
theorem dX12_layWorths_66 : decode cX12_layWorths 66 = .ok (.istore 6, 2) := by decide +kernel
theorem dX12_layWorths_68 : decode cX12_layWorths 68 = .ok (.iload 5, 2) := by decide +kernel
theorem dX12_layWorths_70 : decode cX12_layWorths 70 = .ok (.invokestatic 177, 3) := by decide +kernel
theorem dX12_layWorths_73 : decode cX12_layWorths 73 = .ok (.iload 6, 2) := by decide +kernel
theorem dX12_layWorths_75 : decode cX12_layWorths 75 = .ok (.invokestatic 177, 3) := by decide +kernel
theorem dX12_layWorths_78 : decode cX12_layWorths 78 = .ok (.iadd, 1) := by decide +kernel
theorem dX12_layWorths_79 : decode cX12_layWorths 79 = .ok (.iload_n 3, 1) := by decide +kernel
theorem dX12_layWorths_80 : decode cX12_layWorths 80 = .ok (.if_icmp .ne 76, 3) := by decide +kernel
theorem dX12_layWorths_83 : decode cX12_layWorths 83 = .ok (.iload 5, 2) := by decide +kernel
theorem dX12_layWorths_85 : decode cX12_layWorths 85 = .ok (.invokestatic 177, 3) := by decide +kernel
theorem dX12_layWorths_88 : decode cX12_layWorths 88 = .ok (.iload 6, 2) := by decide +kernel
theorem dX12_layWorths_90 : decode cX12_layWorths 90 = .ok (.invokestatic 177, 3) := by decide +kernel
theorem dX12_layWorths_93 : decode cX12_layWorths 93 = .ok (.isub, 1) := by decide +kernel
theorem dX12_layWorths_94 : decode cX12_layWorths 94 = .ok (.iload_n 3, 1) := by decide +kernel
theorem dX12_layWorths_95 : decode cX12_layWorths 95 = .ok (.iconst 2, 1) := by decide +kernel
theorem dX12_layWorths_96 : decode cX12_layWorths 96 = .ok (.irem, 1) := by decide +kernel
theorem dX12_layWorths_97 : decode cX12_layWorths 97 = .ok (.if_icmp .ne 59, 3) := by decide +kernel
theorem dX12_layWorths_100 : decode cX12_layWorths 100 = .ok (.iload_n 3, 1) := by decide +kernel
theorem dX12_layWorths_101 : decode cX12_layWorths 101 = .ok (.iconst 2, 1) := by decide +kernel
theorem dX12_layWorths_102 : decode cX12_layWorths 102 = .ok (.irem, 1) := by decide +kernel
theorem dX12_layWorths_103 : decode cX12_layWorths 103 = .ok (.ifCond .ne 8, 3) := by decide +kernel
theorem dX12_layWorths_106 : decode cX12_layWorths 106 = .ok (.iload 6, 2) := by decide +kernel
theorem dX12_layWorths_108 : decode cX12_layWorths 108 = .ok (.goto 5, 3) := by decide +kernel
theorem dX12_layWorths_111 : decode cX12_layWorths 111 = .ok (.iload 5, 2) := by decide +kernel
theorem dX12_layWorths_113 : decode cX12_layWorths 113 = .ok (.istore 7, 2) := by decide +kernel
theorem dX12_layWorths_115 : decode cX12_layWorths 115 = .ok (.aload_n 0, 1) := by decide +kernel
theorem dX12_layWorths_116 : decode cX12_layWorths 116 = .ok (.getfield 61, 3) := by decide +kernel
