theorem dX9_goes_33 : decode cX9_goes 33 = .ok (.iload_n 1, 1) := by decide +kernel
theorem dX9_goes_34 : decode cX9_goes 34 = .ok (.iconst 0, 1) := by decide +kernel
theorem dX9_goes_35 : decode cX9_goes 35 = .ok (.bastore, 1) := by decide +kernel
theorem dX9_goes_36 : decode cX9_goes 36 = .ok (.iinc 1 1, 3) := by decide +kernel
theorem dX9_goes_39 : decode cX9_goes 39 = .ok (.goto (-37), 3) := by decide +kernel
theorem dX9_goes_42 : decode cX9_goes 42 = .ok (.iconst 0, 1) := by decide +kernel
theorem dX9_goes_43 : decode cX9_goes 43 = .ok (.istore_n 1, 1) := by decide +kernel
theorem dX9_goes_44 : decode cX9_goes 44 = .ok (.iload_n 1, 1) := by decide +kernel
theorem dX9_goes_45 : decode cX9_goes 45 = .ok (.bipush 64, 2) := by decide +kernel
theorem dX9_goes_47 : decode cX9_goes 47 = .ok (.if_icmp .ge 16, 3) := by decide +kernel
theorem dX9_goes_50 : decode cX9_goes 50 = .ok (.aload_n 0, 1) := by decide +kernel
theorem dX9_goes_51 : decode cX9_goes 51 = .ok (.getfield 65, 3) := by decide +kernel
theorem dX9_goes_54 : decode cX9_goes 54 = .ok (.iload_n 1, 1) := by decide +kernel
theorem dX9_goes_55 : decode cX9_goes 55 = .ok (.iconst (-1), 1) := by decide +kernel
theorem dX9_goes_56 : decode cX9_goes 56 = .ok (.iastore, 1) := by decide +kernel
theorem dX9_goes_57 : decode cX9_goes 57 = .ok (.iinc 1 1, 3) := by decide +kernel
theorem dX9_goes_60 : decode cX9_goes 60 = .ok (.goto (-16), 3) := by decide +kernel
theorem dX9_goes_63 : decode cX9_goes 63 = .ok (.aload_n 0, 1) := by decide +kernel
theorem dX9_goes_64 : decode cX9_goes 64 = .ok (.iconst 0, 1) := by decide +kernel
theorem dX9_goes_65 : decode cX9_goes 65 = .ok (.putfield 347, 3) := by decide +kernel
theorem dX9_goes_68 : decode cX9_goes 68 = .ok (.aload_n 0, 1) := by decide +kernel
theorem dX9_goes_69 : decode cX9_goes 69 = .ok (.iconst 0, 1) := by decide +kernel
theorem dX9_goes_70 : decode cX9_goes 70 = .ok (.putfield 356, 3) := by decide +kernel
theorem dX9_goes_73 : decode cX9_goes 73 = .ok (.iconst 0, 1) := by decide +kernel
theorem dX9_goes_74 : decode cX9_goes 74 = .ok (.istore_n 1, 1) := by decide +kernel
theorem dX9_goes_75 : decode cX9_goes 75 = .ok (.iload_n 1, 1) := by decide +kernel
theorem dX9_goes_76 : decode cX9_goes 76 = .ok (.aload_n 0, 1) := by decide +kernel
theorem dX9_goes_77 : decode cX9_goes 77 = .ok (.getfield 34, 3) := by decide +kernel
theorem dX9_goes_80 : decode cX9_goes 80 = .ok (.iconst 0, 1) := by decide +kernel
theorem dX9_goes_81 : decode cX9_goes 81 = .ok (.iaload, 1) := by decide +kernel
theorem dX9_goes_82 : decode cX9_goes 82 = .ok (.if_icmp .ge 174, 3) := by decide +kernel
theorem dX9_goes_85 : decode cX9_goes 85 = .ok (.aload_n 0, 1) := by decide +kernel
theorem dX9_goes_86 : decode cX9_goes 86 = .ok (.iload_n 1, 1) := by decide +kernel
theorem dX9_goes_87 : decode cX9_goes 87 = .ok (.invokevirtual 383, 3) := by decide +kernel
theorem dX9_goes_90 : decode cX9_goes 90 = .ok (.iconst 0, 1) := by decide +kernel
theorem dX9_goes_91 : decode cX9_goes 91 = .ok (.istore_n 2, 1) := by decide +kernel
theorem dX9_goes_92 : decode cX9_goes 92 = .ok (.iload_n 2, 1) := by decide +kernel
theorem dX9_goes_93 : decode cX9_goes 93 = .ok (.aload_n 0, 1) := by decide +kernel
theorem dX9_goes_94 : decode cX9_goes 94 = .ok (.getfield 34, 3) := by decide +kernel
theorem dX9_goes_97 : decode cX9_goes 97 = .ok (.iconst 2, 1) := by decide +kernel
theorem dX9_goes_98 : decode cX9_goes 98 = .ok (.iaload, 1) := by decide +kernel
theorem dX9_goes_99 : decode cX9_goes 99 = .ok (.if_icmp .ge 87, 3) := by decide +kernel
theorem dX9_goes_102 : decode cX9_goes 102 = .ok (.aload_n 0, 1) := by decide +kernel
theorem dX9_goes_103 : decode cX9_goes 103 = .ok (.iload_n 2, 1) := by decide +kernel
theorem dX9_goes_104 : decode cX9_goes 104 = .ok (.aload_n 0, 1) := by decide +kernel
theorem dX9_goes_105 : decode cX9_goes 105 = .ok (.iload_n 2, 1) := by decide +kernel
theorem dX9_goes_106 : decode cX9_goes 106 = .ok (.iload_n 1, 1) := by decide +kernel
theorem dX9_goes_107 : decode cX9_goes 107 = .ok (.invokevirtual 386, 3) := by decide +kernel
theorem dX9_goes_110 : decode cX9_goes 110 = .ok (.iload_n 1, 1) := by decide +kernel
theorem dX9_goes_111 : decode cX9_goes 111 = .ok (.invokevirtual 389, 3) := by decide +kernel
theorem dX9_goes_114 : decode cX9_goes 114 = .ok (.istore_n 3, 1) := by decide +kernel
theorem dX9_goes_115 : decode cX9_goes 115 = .ok (.aload_n 0, 1) := by decide +kernel
theorem dX9_goes_116 : decode cX9_goes 116 = .ok (.getfield 68, 3) := by decide +kernel
theorem dX9_goes_119 : decode cX9_goes 119 = .ok (.bipush 40, 2) := by decide +kernel
theorem dX9_goes_121 : decode cX9_goes 121 = .ok (.iload_n 2, 1) := by decide +kernel
theorem dX9_goes_122 : decode cX9_goes 122 = .ok (.imul, 1) := by decide +kernel
theorem dX9_goes_123 : decode cX9_goes 123 = .ok (.iload_n 1, 1) := by decide +kernel
theorem dX9_goes_124 : decode cX9_goes 124 = .ok (.iadd, 1) := by decide +kernel
theorem dX9_goes_125 : decode cX9_goes 125 = .ok (.aload_n 0, 1) := by decide +kernel
theorem dX9_goes_126 : decode cX9_goes 126 = .ok (.getfield 368, 3) := by decide +kernel
theorem dX9_goes_129 : decode cX9_goes 129 = .ok (.iastore, 1) := by decide +kernel
theorem dX9_goes_130 : decode cX9_goes 130 = .ok (.aload_n 0, 1) := by decide +kernel
theorem dX9_goes_131 : decode cX9_goes 131 = .ok (.iload_n 2, 1) := by decide +kernel
theorem dX9_goes_132 : decode cX9_goes 132 = .ok (.invokevirtual 282, 3) := by decide +kernel
theorem dX9_goes_135 : decode cX9_goes 135 = .ok (.iconst 4, 1) := by decide +kernel
theorem dX9_goes_136 : decode cX9_goes 136 = .ok (.if_icmp .ne 32, 3) := by decide +kernel
theorem dX9_goes_139 : decode cX9_goes 139 = .ok (.aload_n 0, 1) := by decide +kernel
theorem dX9_goes_140 : decode cX9_goes 140 = .ok (.getfield 368, 3) := by decide +kernel
theorem dX9_goes_143 : decode cX9_goes 143 = .ok (.iconst (-1), 1) := by decide +kernel
theorem dX9_goes_144 : decode cX9_goes 144 = .ok (.if_icmp .ne 24, 3) := by decide +kernel
theorem dX9_goes_147 : decode cX9_goes 147 = .ok (.iload_n 3, 1) := by decide +kernel
theorem dX9_goes_148 : decode cX9_goes 148 = .ok (.ifCond .le 20, 3) := by decide +kernel
theorem dX9_goes_151 : decode cX9_goes 151 = .ok (.aload_n 0, 1) := by decide +kernel
theorem dX9_goes_152 : decode cX9_goes 152 = .ok (.aload_n 0, 1) := by decide +kernel
theorem dX9_goes_153 : decode cX9_goes 153 = .ok (.getfield 37, 3) := by decide +kernel
theorem dX9_goes_156 : decode cX9_goes 156 = .ok (.iconst 3, 1) := by decide +kernel
theorem dX9_goes_157 : decode cX9_goes 157 = .ok (.iload_n 2, 1) := by decide +kernel
theorem dX9_goes_158 : decode cX9_goes 158 = .ok (.imul, 1) := by decide +kernel
theorem dX9_goes_159 : decode cX9_goes 159 = .ok (.iconst 2, 1) := by decide +kernel
theorem dX9_goes_160 : decode cX9_goes 160 = .ok (.iadd, 1) := by decide +kernel
theorem dX9_goes_161 : decode cX9_goes 161 = .ok (.iaload, 1) := by decide +kernel
theorem dX9_goes_162 : decode cX9_goes 162 = .ok (.iload_n 3, 1) := by decide +kernel
theorem dX9_goes_163 : decode cX9_goes 163 = .ok (.iload_n 1, 1) := by decide +kernel
theorem dX9_goes_164 : decode cX9_goes 164 = .ok (.invokevirtual 389, 3) := by decide +kernel
theorem dX9_goes_167 : decode cX9_goes 167 = .ok (.istore_n 3, 1) := by decide +kernel
theorem dX9_goes_168 : decode cX9_goes 168 = .ok (.aload_n 0, 1) := by decide +kernel
theorem dX9_goes_169 : decode cX9_goes 169 = .ok (.getfield 71, 3) := by decide +kernel
theorem dX9_goes_172 : decode cX9_goes 172 = .ok (.bipush 40, 2) := by decide +kernel
theorem dX9_goes_174 : decode cX9_goes 174 = .ok (.iload_n 2, 1) := by decide +kernel
theorem dX9_goes_175 : decode cX9_goes 175 = .ok (.imul, 1) := by decide +kernel
theorem dX9_goes_176 : decode cX9_goes 176 = .ok (.iload_n 1, 1) := by decide +kernel
theorem dX9_goes_177 : decode cX9_goes 177 = .ok (.iadd, 1) := by decide +kernel
theorem dX9_goes_178 : decode cX9_goes 178 = .ok (.iload_n 3, 1) := by decide +kernel
theorem dX9_goes_179 : decode cX9_goes 179 = .ok (.iastore, 1) := by decide +kernel
theorem dX9_goes_180 : decode cX9_goes 180 = .ok (.iinc 2 1, 3) := by decide +kernel
theorem dX9_goes_183 : decode cX9_goes 183 = .ok (.goto (-91), 3) := by decide +kernel
theorem dX9_goes_186 : decode cX9_goes 186 = .ok (.iconst 0, 1) := by decide +kernel
theorem dX9_goes_187 : decode cX9_goes 187 = .ok (.istore_n 2, 1) := by decide +kernel
theorem dX9_goes_188 : decode cX9_goes 188 = .ok (.iload_n 2, 1) := by decide +kernel
theorem dX9_goes_189 : decode cX9_goes 189 = .ok (.bipush 49, 2) := by decide +kernel
theorem dX9_goes_191 : decode cX9_goes 191 = .ok (.if_icmp .ge 59, 3) := by decide +kernel
theorem dX9_goes_194 : decode cX9_goes 194 = .ok (.aload_n 0, 1) := by decide +kernel
theorem dX9_goes_195 : decode cX9_goes 195 = .ok (.getfield 59, 3) := by decide +kernel
theorem dX9_goes_198 : decode cX9_goes 198 = .ok (.bipush 40, 2) := by decide +kernel
theorem dX9_goes_200 : decode cX9_goes 200 = .ok (.iload_n 2, 1) := by decide +kernel
theorem dX9_goes_201 : decode cX9_goes 201 = .ok (.imul, 1) := by decide +kernel
theorem dX9_goes_202 : decode cX9_goes 202 = .ok (.iload_n 1, 1) := by decide +kernel
theorem dX9_goes_203 : decode cX9_goes 203 = .ok (.iadd, 1) := by decide +kernel
theorem dX9_goes_204 : decode cX9_goes 204 = .ok (.aload_n 0, 1) := by decide +kernel
theorem dX9_goes_205 : decode cX9_goes 205 = .ok (.getfield 50, 3) := by decide +kernel
theorem dX9_goes_208 : decode cX9_goes 208 = .ok (.iload_n 2, 1) := by decide +kernel
theorem dX9_goes_209 : decode cX9_goes 209 = .ok (.iaload, 1) := by decide +kernel
theorem dX9_goes_210 : decode cX9_goes 210 = .ok (.iconst (-1), 1) := by decide +kernel
theorem dX9_goes_211 : decode cX9_goes 211 = .ok (.if_icmp .eq 22, 3) := by decide +kernel
theorem dX9_goes_214 : decode cX9_goes 214 = .ok (.aload_n 0, 1) := by decide +kernel
theorem dX9_goes_215 : decode cX9_goes 215 = .ok (.getfield 62, 3) := by decide +kernel
theorem dX9_goes_218 : decode cX9_goes 218 = .ok (.iload_n 2, 1) := by decide +kernel
theorem dX9_goes_219 : decode cX9_goes 219 = .ok (.baload, 1) := by decide +kernel
theorem dX9_goes_220 : decode cX9_goes 220 = .ok (.ifCond .eq 17, 3) := by decide +kernel
theorem dX9_goes_223 : decode cX9_goes 223 = .ok (.aload_n 0, 1) := by decide +kernel
theorem dX9_goes_224 : decode cX9_goes 224 = .ok (.getfield 53, 3) := by decide +kernel
theorem dX9_goes_227 : decode cX9_goes 227 = .ok (.iload_n 2, 1) := by decide +kernel
theorem dX9_goes_228 : decode cX9_goes 228 = .ok (.iaload, 1) := by decide +kernel
theorem dX9_goes_229 : decode cX9_goes 229 = .ok (.iconst (-1), 1) := by decide +kernel
theorem dX9_goes_230 : decode cX9_goes 230 = .ok (.if_icmp .ne 7, 3) := by decide +kernel
theorem dX9_goes_233 : decode cX9_goes 233 = .ok (.iconst (-1), 1) := by decide +kernel
theorem dX9_goes_234 : decode cX9_goes 234 = .ok (.goto 9, 3) := by decide +kernel
theorem dX9_goes_237 : decode cX9_goes 237 = .ok (.aload_n 0, 1) := by decide +kernel
theorem dX9_goes_238 : decode cX9_goes 238 = .ok (.getfield 56, 3) := by decide +kernel
theorem dX9_goes_241 : decode cX9_goes 241 = .ok (.iload_n 2, 1) := by decide +kernel
theorem dX9_goes_242 : decode cX9_goes 242 = .ok (.iaload, 1) := by decide +kernel
theorem dX9_goes_243 : decode cX9_goes 243 = .ok (.iastore, 1) := by decide +kernel
theorem dX9_goes_244 : decode cX9_goes 244 = .ok (.iinc 2 1, 3) := by decide +kernel
theorem dX9_goes_247 : decode cX9_goes 247 = .ok (.goto (-59), 3) := by decide +kernel
theorem dX9_goes_250 : decode cX9_goes 250 = .ok (.iinc 1 1, 3) := by decide +kernel
theorem dX9_goes_253 : decode cX9_goes 253 = .ok (.goto (-178), 3) := by decide +kernel
theorem dX9_goes_256 : decode cX9_goes 256 = .ok (.return_, 1) := by decide +kernel
theorem dX9_asTold_0 : decode cX9_asTold 0 = .ok (.aload_n 0, 1) := by decide +kernel
theorem dX9_asTold_1 : decode cX9_asTold 1 = .ok (.invokevirtual 393, 3) := by decide +kernel
theorem dX9_asTold_4 : decode cX9_asTold 4 = .ok (.aload_n 0, 1) := by decide +kernel
theorem dX9_asTold_5 : decode cX9_asTold 5 = .ok (.invokevirtual 396, 3) := by decide +kernel
theorem dX9_asTold_8 : decode cX9_asTold 8 = .ok (.return_, 1) := by decide +kernel
theorem dX9_letter_0 : decode cX9_letter 0 = .ok (.aload_n 0, 1) := by decide +kernel
theorem dX9_letter_1 : decode cX9_letter 1 = .ok (.iconst 0, 1) := by decide +kernel
theorem dX9_letter_2 : decode cX9_letter 2 = .ok (.putfield 95, 3) := by decide +kernel
theorem dX9_letter_5 : decode cX9_letter 5 = .ok (.aload_n 0, 1) := by decide +kernel
theorem dX9_letter_6 : decode cX9_letter 6 = .ok (.iload_n 1, 1) := by decide +kernel
theorem dX9_letter_7 : decode cX9_letter 7 = .ok (.invokevirtual 399, 3) := by decide +kernel
theorem dX9_letter_10 : decode cX9_letter 10 = .ok (.ifCond .eq 15, 3) := by decide +kernel
theorem dX9_letter_13 : decode cX9_letter 13 = .ok (.iload_n 2, 1) := by decide +kernel
theorem dX9_letter_14 : decode cX9_letter 14 = .ok (.i2l, 1) := by decide +kernel
theorem dX9_letter_15 : decode cX9_letter 15 = .ok (.lconst 0, 1) := by decide +kernel
theorem dX9_letter_16 : decode cX9_letter 16 = .ok (.ldc2_w 402, 3) := by decide +kernel
theorem dX9_letter_19 : decode cX9_letter 19 = .ok (.invokestatic 100, 3) := by decide +kernel
theorem dX9_letter_22 : decode cX9_letter 22 = .ok (.ifCond .ne 6, 3) := by decide +kernel
theorem dX9_letter_25 : decode cX9_letter 25 = .ok (.bipush (-2), 2) := by decide +kernel
theorem dX9_letter_27 : decode cX9_letter 27 = .ok (.ireturn, 1) := by decide +kernel
theorem dX9_letter_28 : decode cX9_letter 28 = .ok (.iload_n 1, 1) := by decide +kernel
theorem dX9_letter_29 : decode cX9_letter 29 = .ok (.bipush 24, 2) := by decide +kernel
theorem dX9_letter_31 : decode cX9_letter 31 = .ok (.if_icmp .ge 15, 3) := by decide +kernel
theorem dX9_letter_34 : decode cX9_letter 34 = .ok (.aload_n 0, 1) := by decide +kernel
theorem dX9_letter_35 : decode cX9_letter 35 = .ok (.getfield 40, 3) := by decide +kernel
theorem dX9_letter_38 : decode cX9_letter 38 = .ok (.bipush 8, 2) := by decide +kernel
theorem dX9_letter_40 : decode cX9_letter 40 = .ok (.iload_n 1, 1) := by decide +kernel
theorem dX9_letter_41 : decode cX9_letter 41 = .ok (.imul, 1) := by decide +kernel
theorem dX9_letter_42 : decode cX9_letter 42 = .ok (.iload_n 2, 1) := by decide +kernel
theorem dX9_letter_43 : decode cX9_letter 43 = .ok (.iadd, 1) := by decide +kernel
theorem dX9_letter_44 : decode cX9_letter 44 = .ok (.iaload, 1) := by decide +kernel
theorem dX9_letter_45 : decode cX9_letter 45 = .ok (.ireturn, 1) := by decide +kernel
theorem dX9_letter_46 : decode cX9_letter 46 = .ok (.aload_n 0, 1) := by decide +kernel
theorem dX9_letter_47 : decode cX9_letter 47 = .ok (.invokevirtual 404, 3) := by decide +kernel
theorem dX9_letter_50 : decode cX9_letter 50 = .ok (.iload_n 2, 1) := by decide +kernel
theorem dX9_letter_51 : decode cX9_letter 51 = .ok (.ifCond .ne 11, 3) := by decide +kernel
theorem dX9_letter_54 : decode cX9_letter 54 = .ok (.aload_n 0, 1) := by decide +kernel
theorem dX9_letter_55 : decode cX9_letter 55 = .ok (.iload_n 1, 1) := by decide +kernel
theorem dX9_letter_56 : decode cX9_letter 56 = .ok (.invokevirtual 340, 3) := by decide +kernel
theorem dX9_letter_59 : decode cX9_letter 59 = .ok (.goto 59, 3) := by decide +kernel
theorem dX9_letter_62 : decode cX9_letter 62 = .ok (.iload_n 2, 1) := by decide +kernel
theorem dX9_letter_63 : decode cX9_letter 63 = .ok (.iconst 1, 1) := by decide +kernel
theorem dX9_letter_64 : decode cX9_letter 64 = .ok (.if_icmp .ne 11, 3) := by decide +kernel
theorem dX9_letter_67 : decode cX9_letter 67 = .ok (.aload_n 0, 1) := by decide +kernel
theorem dX9_letter_68 : decode cX9_letter 68 = .ok (.iload_n 1, 1) := by decide +kernel
theorem dX9_letter_69 : decode cX9_letter 69 = .ok (.invokevirtual 279, 3) := by decide +kernel
theorem dX9_letter_72 : decode cX9_letter 72 = .ok (.goto 46, 3) := by decide +kernel
theorem dX9_letter_75 : decode cX9_letter 75 = .ok (.iload_n 2, 1) := by decide +kernel
theorem dX9_letter_76 : decode cX9_letter 76 = .ok (.iconst 2, 1) := by decide +kernel
theorem dX9_letter_77 : decode cX9_letter 77 = .ok (.if_icmp .ne 12, 3) := by decide +kernel
theorem dX9_letter_80 : decode cX9_letter 80 = .ok (.aload_n 0, 1) := by decide +kernel
theorem dX9_letter_81 : decode cX9_letter 81 = .ok (.getfield 50, 3) := by decide +kernel
theorem dX9_letter_84 : decode cX9_letter 84 = .ok (.iload_n 1, 1) := by decide +kernel
theorem dX9_letter_85 : decode cX9_letter 85 = .ok (.iaload, 1) := by decide +kernel
theorem dX9_letter_86 : decode cX9_letter 86 = .ok (.goto 32, 3) := by decide +kernel
theorem dX9_letter_89 : decode cX9_letter 89 = .ok (.iload_n 2, 1) := by decide +kernel
theorem dX9_letter_90 : decode cX9_letter 90 = .ok (.iconst 3, 1) := by decide +kernel
theorem dX9_letter_91 : decode cX9_letter 91 = .ok (.if_icmp .ne 11, 3) := by decide +kernel
theorem dX9_letter_94 : decode cX9_letter 94 = .ok (.aload_n 0, 1) := by decide +kernel
theorem dX9_letter_95 : decode cX9_letter 95 = .ok (.iload_n 1, 1) := by decide +kernel
theorem dX9_letter_96 : decode cX9_letter 96 = .ok (.invokevirtual 276, 3) := by decide +kernel
theorem dX9_letter_99 : decode cX9_letter 99 = .ok (.goto 19, 3) := by decide +kernel
theorem dX9_letter_102 : decode cX9_letter 102 = .ok (.iload_n 2, 1) := by decide +kernel
theorem dX9_letter_103 : decode cX9_letter 103 = .ok (.iconst 4, 1) := by decide +kernel
theorem dX9_letter_104 : decode cX9_letter 104 = .ok (.if_icmp .eq 9, 3) := by decide +kernel
theorem dX9_letter_107 : decode cX9_letter 107 = .ok (.iload_n 2, 1) := by decide +kernel
theorem dX9_letter_108 : decode cX9_letter 108 = .ok (.bipush 6, 2) := by decide +kernel
theorem dX9_letter_110 : decode cX9_letter 110 = .ok (.if_icmp .ne 7, 3) := by decide +kernel
theorem dX9_letter_113 : decode cX9_letter 113 = .ok (.iconst 0, 1) := by decide +kernel
theorem dX9_letter_114 : decode cX9_letter 114 = .ok (.goto 4, 3) := by decide +kernel
theorem dX9_letter_117 : decode cX9_letter 117 = .ok (.iconst (-1), 1) := by decide +kernel
theorem dX9_letter_118 : decode cX9_letter 118 = .ok (.ireturn, 1) := by decide +kernel
theorem dX9_answered_0 : decode cX9_answered 0 = .ok (.aload_n 0, 1) := by decide +kernel
theorem dX9_answered_1 : decode cX9_answered 1 = .ok (.iconst 0, 1) := by decide +kernel
theorem dX9_answered_2 : decode cX9_answered 2 = .ok (.putfield 95, 3) := by decide +kernel
theorem dX9_answered_5 : decode cX9_answered 5 = .ok (.aload_n 0, 1) := by decide +kernel
theorem dX9_answered_6 : decode cX9_answered 6 = .ok (.iload_n 1, 1) := by decide +kernel
theorem dX9_answered_7 : decode cX9_answered 7 = .ok (.invokevirtual 399, 3) := by decide +kernel
theorem dX9_answered_10 : decode cX9_answered 10 = .ok (.ifCond .ne 6, 3) := by decide +kernel
theorem dX9_answered_13 : decode cX9_answered 13 = .ok (.bipush (-2), 2) := by decide +kernel
theorem dX9_answered_15 : decode cX9_answered 15 = .ok (.ireturn, 1) := by decide +kernel
theorem dX9_answered_16 : decode cX9_answered 16 = .ok (.aload_n 0, 1) := by decide +kernel
theorem dX9_answered_17 : decode cX9_answered 17 = .ok (.invokevirtual 404, 3) := by decide +kernel
theorem dX9_answered_20 : decode cX9_answered 20 = .ok (.aload_n 0, 1) := by decide +kernel
theorem dX9_answered_21 : decode cX9_answered 21 = .ok (.getfield 53, 3) := by decide +kernel
theorem dX9_answered_24 : decode cX9_answered 24 = .ok (.iload_n 1, 1) := by decide +kernel
theorem dX9_answered_25 : decode cX9_answered 25 = .ok (.iaload, 1) := by decide +kernel
theorem dX9_answered_26 : decode cX9_answered 26 = .ok (.ireturn, 1) := by decide +kernel
theorem dX9_comes__0 : decode cX9_comes_ 0 = .ok (.aload_n 0, 1) := by decide +kernel
theorem dX9_comes__1 : decode cX9_comes_ 1 = .ok (.iconst 0, 1) := by decide +kernel
theorem dX9_comes__2 : decode cX9_comes_ 2 = .ok (.putfield 95, 3) := by decide +kernel
theorem dX9_comes__5 : decode cX9_comes_ 5 = .ok (.aload_n 0, 1) := by decide +kernel
theorem dX9_comes__6 : decode cX9_comes_ 6 = .ok (.iload_n 1, 1) := by decide +kernel
theorem dX9_comes__7 : decode cX9_comes_ 7 = .ok (.invokevirtual 399, 3) := by decide +kernel
theorem dX9_comes__10 : decode cX9_comes_ 10 = .ok (.ifCond .ne 6, 3) := by decide +kernel
theorem dX9_comes__13 : decode cX9_comes_ 13 = .ok (.bipush (-2), 2) := by decide +kernel
theorem dX9_comes__15 : decode cX9_comes_ 15 = .ok (.ireturn, 1) := by decide +kernel
theorem dX9_comes__16 : decode cX9_comes_ 16 = .ok (.aload_n 0, 1) := by decide +kernel
theorem dX9_comes__17 : decode cX9_comes_ 17 = .ok (.invokevirtual 404, 3) := by decide +kernel
theorem dX9_comes__20 : decode cX9_comes_ 20 = .ok (.aload_n 0, 1) := by decide +kernel
theorem dX9_comes__21 : decode cX9_comes_ 21 = .ok (.getfield 53, 3) := by decide +kernel
theorem dX9_comes__24 : decode cX9_comes_ 24 = .ok (.iload_n 1, 1) := by decide +kernel
theorem dX9_comes__25 : decode cX9_comes_ 25 = .ok (.iaload, 1) := by decide +kernel
theorem dX9_comes__26 : decode cX9_comes_ 26 = .ok (.iconst (-1), 1) := by decide +kernel
theorem dX9_comes__27 : decode cX9_comes_ 27 = .ok (.if_icmp .eq 25, 3) := by decide +kernel
theorem dX9_comes__30 : decode cX9_comes_ 30 = .ok (.aload_n 0, 1) := by decide +kernel
theorem dX9_comes__31 : decode cX9_comes_ 31 = .ok (.getfield 53, 3) := by decide +kernel
theorem dX9_comes__34 : decode cX9_comes_ 34 = .ok (.iload_n 1, 1) := by decide +kernel
theorem dX9_comes__35 : decode cX9_comes_ 35 = .ok (.iaload, 1) := by decide +kernel
theorem dX9_comes__36 : decode cX9_comes_ 36 = .ok (.aload_n 0, 1) := by decide +kernel
theorem dX9_comes__37 : decode cX9_comes_ 37 = .ok (.getfield 34, 3) := by decide +kernel
theorem dX9_comes__40 : decode cX9_comes_ 40 = .ok (.iconst 1, 1) := by decide +kernel
theorem dX9_comes__41 : decode cX9_comes_ 41 = .ok (.iaload, 1) := by decide +kernel
theorem dX9_comes__42 : decode cX9_comes_ 42 = .ok (.iadd, 1) := by decide +kernel
theorem dX9_comes__43 : decode cX9_comes_ 43 = .ok (.aload_n 0, 1) := by decide +kernel
theorem dX9_comes__44 : decode cX9_comes_ 44 = .ok (.getfield 34, 3) := by decide +kernel
theorem dX9_comes__47 : decode cX9_comes_ 47 = .ok (.iconst 0, 1) := by decide +kernel
theorem dX9_comes__48 : decode cX9_comes_ 48 = .ok (.iaload, 1) := by decide +kernel
theorem dX9_comes__49 : decode cX9_comes_ 49 = .ok (.if_icmp .lt 7, 3) := by decide +kernel
theorem dX9_comes__52 : decode cX9_comes_ 52 = .ok (.iconst (-1), 1) := by decide +kernel
theorem dX9_comes__53 : decode cX9_comes_ 53 = .ok (.goto 16, 3) := by decide +kernel
theorem dX9_comes__56 : decode cX9_comes_ 56 = .ok (.aload_n 0, 1) := by decide +kernel
theorem dX9_comes__57 : decode cX9_comes_ 57 = .ok (.getfield 53, 3) := by decide +kernel
theorem dX9_comes__60 : decode cX9_comes_ 60 = .ok (.iload_n 1, 1) := by decide +kernel
theorem dX9_comes__61 : decode cX9_comes_ 61 = .ok (.iaload, 1) := by decide +kernel
theorem dX9_comes__62 : decode cX9_comes_ 62 = .ok (.aload_n 0, 1) := by decide +kernel
theorem dX9_comes__63 : decode cX9_comes_ 63 = .ok (.getfield 34, 3) := by decide +kernel
theorem dX9_comes__66 : decode cX9_comes_ 66 = .ok (.iconst 1, 1) := by decide +kernel
theorem dX9_comes__67 : decode cX9_comes_ 67 = .ok (.iaload, 1) := by decide +kernel
theorem dX9_comes__68 : decode cX9_comes_ 68 = .ok (.iadd, 1) := by decide +kernel
theorem dX9_comes__69 : decode cX9_comes_ 69 = .ok (.ireturn, 1) := by decide +kernel
theorem dX9_needs_0 : decode cX9_needs 0 = .ok (.aload_n 0, 1) := by decide +kernel
theorem dX9_needs_1 : decode cX9_needs 1 = .ok (.iconst 0, 1) := by decide +kernel
theorem dX9_needs_2 : decode cX9_needs 2 = .ok (.putfield 95, 3) := by decide +kernel
theorem dX9_needs_5 : decode cX9_needs 5 = .ok (.aload_n 0, 1) := by decide +kernel
theorem dX9_needs_6 : decode cX9_needs 6 = .ok (.iload_n 1, 1) := by decide +kernel
theorem dX9_needs_7 : decode cX9_needs 7 = .ok (.invokevirtual 399, 3) := by decide +kernel
theorem dX9_needs_10 : decode cX9_needs 10 = .ok (.ifCond .eq 11, 3) := by decide +kernel
theorem dX9_needs_13 : decode cX9_needs 13 = .ok (.aload_n 0, 1) := by decide +kernel
theorem dX9_needs_14 : decode cX9_needs 14 = .ok (.iload_n 2, 1) := by decide +kernel
theorem dX9_needs_15 : decode cX9_needs 15 = .ok (.invokevirtual 407, 3) := by decide +kernel
theorem dX9_needs_18 : decode cX9_needs 18 = .ok (.ifCond .ne 6, 3) := by decide +kernel
theorem dX9_needs_21 : decode cX9_needs 21 = .ok (.bipush (-2), 2) := by decide +kernel
theorem dX9_needs_23 : decode cX9_needs 23 = .ok (.ireturn, 1) := by decide +kernel
theorem dX9_needs_24 : decode cX9_needs 24 = .ok (.aload_n 0, 1) := by decide +kernel
theorem dX9_needs_25 : decode cX9_needs 25 = .ok (.invokevirtual 404, 3) := by decide +kernel
theorem dX9_needs_28 : decode cX9_needs 28 = .ok (.aload_n 0, 1) := by decide +kernel
theorem dX9_needs_29 : decode cX9_needs 29 = .ok (.getfield 59, 3) := by decide +kernel
theorem dX9_needs_32 : decode cX9_needs 32 = .ok (.bipush 40, 2) := by decide +kernel
theorem dX9_needs_34 : decode cX9_needs 34 = .ok (.iload_n 1, 1) := by decide +kernel
theorem dX9_needs_35 : decode cX9_needs 35 = .ok (.imul, 1) := by decide +kernel
theorem dX9_needs_36 : decode cX9_needs 36 = .ok (.iload_n 2, 1) := by decide +kernel
theorem dX9_needs_37 : decode cX9_needs 37 = .ok (.iadd, 1) := by decide +kernel
theorem dX9_needs_38 : decode cX9_needs 38 = .ok (.iaload, 1) := by decide +kernel
theorem dX9_needs_39 : decode cX9_needs 39 = .ok (.ireturn, 1) := by decide +kernel
theorem dX9_liesOn_0 : decode cX9_liesOn 0 = .ok (.aload_n 0, 1) := by decide +kernel
theorem dX9_liesOn_1 : decode cX9_liesOn 1 = .ok (.getfield 59, 3) := by decide +kernel
theorem dX9_liesOn_4 : decode cX9_liesOn 4 = .ok (.bipush 40, 2) := by decide +kernel
theorem dX9_liesOn_6 : decode cX9_liesOn 6 = .ok (.iload_n 1, 1) := by decide +kernel
theorem dX9_liesOn_7 : decode cX9_liesOn 7 = .ok (.imul, 1) := by decide +kernel
theorem dX9_liesOn_8 : decode cX9_liesOn 8 = .ok (.iload_n 3, 1) := by decide +kernel
theorem dX9_liesOn_9 : decode cX9_liesOn 9 = .ok (.iadd, 1) := by decide +kernel
theorem dX9_liesOn_10 : decode cX9_liesOn 10 = .ok (.iaload, 1) := by decide +kernel
theorem dX9_liesOn_11 : decode cX9_liesOn 11 = .ok (.ifCond .le 16, 3) := by decide +kernel
theorem dX9_liesOn_14 : decode cX9_liesOn 14 = .ok (.aload_n 0, 1) := by decide +kernel
theorem dX9_liesOn_15 : decode cX9_liesOn 15 = .ok (.iload_n 1, 1) := by decide +kernel
theorem dX9_liesOn_16 : decode cX9_liesOn 16 = .ok (.invokevirtual 279, 3) := by decide +kernel
theorem dX9_liesOn_19 : decode cX9_liesOn 19 = .ok (.iload_n 2, 1) := by decide +kernel
theorem dX9_liesOn_20 : decode cX9_liesOn 20 = .ok (.if_icmp .ne 7, 3) := by decide +kernel
theorem dX9_liesOn_23 : decode cX9_liesOn 23 = .ok (.iconst 1, 1) := by decide +kernel
theorem dX9_liesOn_24 : decode cX9_liesOn 24 = .ok (.goto 4, 3) := by decide +kernel
theorem dX9_liesOn_27 : decode cX9_liesOn 27 = .ok (.iconst 0, 1) := by decide +kernel
theorem dX9_liesOn_28 : decode cX9_liesOn 28 = .ok (.ireturn, 1) := by decide +kernel
theorem dX9_pile_0 : decode cX9_pile 0 = .ok (.aload_n 0, 1) := by decide +kernel
theorem dX9_pile_1 : decode cX9_pile 1 = .ok (.iconst 0, 1) := by decide +kernel
theorem dX9_pile_2 : decode cX9_pile 2 = .ok (.putfield 95, 3) := by decide +kernel
theorem dX9_pile_5 : decode cX9_pile 5 = .ok (.aload_n 0, 1) := by decide +kernel
theorem dX9_pile_6 : decode cX9_pile 6 = .ok (.iload_n 1, 1) := by decide +kernel
theorem dX9_pile_7 : decode cX9_pile 7 = .ok (.invokevirtual 288, 3) := by decide +kernel
theorem dX9_pile_10 : decode cX9_pile 10 = .ok (.ifCond .eq 11, 3) := by decide +kernel
theorem dX9_pile_13 : decode cX9_pile 13 = .ok (.aload_n 0, 1) := by decide +kernel
theorem dX9_pile_14 : decode cX9_pile 14 = .ok (.iload_n 2, 1) := by decide +kernel
theorem dX9_pile_15 : decode cX9_pile 15 = .ok (.invokevirtual 407, 3) := by decide +kernel
theorem dX9_pile_18 : decode cX9_pile 18 = .ok (.ifCond .ne 7, 3) := by decide +kernel
theorem dX9_pile_21 : decode cX9_pile 21 = .ok (.ldc2_w 410, 3) := by decide +kernel
theorem dX9_pile_24 : decode cX9_pile 24 = .ok (.lreturn, 1) := by decide +kernel
theorem dX9_pile_25 : decode cX9_pile 25 = .ok (.aload_n 0, 1) := by decide +kernel
theorem dX9_pile_26 : decode cX9_pile 26 = .ok (.invokevirtual 404, 3) := by decide +kernel
theorem dX9_pile_29 : decode cX9_pile 29 = .ok (.lconst 0, 1) := by decide +kernel
theorem dX9_pile_30 : decode cX9_pile 30 = .ok (.lstore_n 3, 1) := by decide +kernel
theorem dX9_pile_31 : decode cX9_pile 31 = .ok (.iconst 0, 1) := by decide +kernel
theorem dX9_pile_32 : decode cX9_pile 32 = .ok (.istore 5, 2) := by decide +kernel
theorem dX9_pile_34 : decode cX9_pile 34 = .ok (.iload 5, 2) := by decide +kernel
theorem dX9_pile_36 : decode cX9_pile 36 = .ok (.bipush 48, 2) := by decide +kernel
theorem dX9_pile_38 : decode cX9_pile 38 = .ok (.if_icmp .ge 31, 3) := by decide +kernel
theorem dX9_pile_41 : decode cX9_pile 41 = .ok (.lload_n 3, 1) := by decide +kernel
theorem dX9_pile_42 : decode cX9_pile 42 = .ok (.aload_n 0, 1) := by decide +kernel
theorem dX9_pile_43 : decode cX9_pile 43 = .ok (.iload 5, 2) := by decide +kernel
theorem dX9_pile_45 : decode cX9_pile 45 = .ok (.iload_n 1, 1) := by decide +kernel
theorem dX9_pile_46 : decode cX9_pile 46 = .ok (.iload_n 2, 1) := by decide +kernel
theorem dX9_pile_47 : decode cX9_pile 47 = .ok (.invokevirtual 412, 3) := by decide +kernel
theorem dX9_pile_50 : decode cX9_pile 50 = .ok (.ifCond .eq 10, 3) := by decide +kernel
theorem dX9_pile_53 : decode cX9_pile 53 = .ok (.lconst 1, 1) := by decide +kernel
theorem dX9_pile_54 : decode cX9_pile 54 = .ok (.iload 5, 2) := by decide +kernel
theorem dX9_pile_56 : decode cX9_pile 56 = .ok (.lshl, 1) := by decide +kernel
theorem dX9_pile_57 : decode cX9_pile 57 = .ok (.goto 4, 3) := by decide +kernel
theorem dX9_pile_60 : decode cX9_pile 60 = .ok (.lconst 0, 1) := by decide +kernel
theorem dX9_pile_61 : decode cX9_pile 61 = .ok (.lor, 1) := by decide +kernel
theorem dX9_pile_62 : decode cX9_pile 62 = .ok (.lstore_n 3, 1) := by decide +kernel
theorem dX9_pile_63 : decode cX9_pile 63 = .ok (.iinc 5 1, 3) := by decide +kernel
theorem dX9_pile_66 : decode cX9_pile 66 = .ok (.goto (-32), 3) := by decide +kernel
theorem dX9_pile_69 : decode cX9_pile 69 = .ok (.lload_n 3, 1) := by decide +kernel
theorem dX9_pile_70 : decode cX9_pile 70 = .ok (.lreturn, 1) := by decide +kernel
theorem dX9_idle_0 : decode cX9_idle 0 = .ok (.aload_n 0, 1) := by decide +kernel
theorem dX9_idle_1 : decode cX9_idle 1 = .ok (.iconst 0, 1) := by decide +kernel
theorem dX9_idle_2 : decode cX9_idle 2 = .ok (.putfield 95, 3) := by decide +kernel
theorem dX9_idle_5 : decode cX9_idle 5 = .ok (.aload_n 0, 1) := by decide +kernel
theorem dX9_idle_6 : decode cX9_idle 6 = .ok (.iload_n 1, 1) := by decide +kernel
theorem dX9_idle_7 : decode cX9_idle 7 = .ok (.invokevirtual 288, 3) := by decide +kernel
theorem dX9_idle_10 : decode cX9_idle 10 = .ok (.ifCond .eq 11, 3) := by decide +kernel
theorem dX9_idle_13 : decode cX9_idle 13 = .ok (.aload_n 0, 1) := by decide +kernel
theorem dX9_idle_14 : decode cX9_idle 14 = .ok (.iload_n 2, 1) := by decide +kernel
theorem dX9_idle_15 : decode cX9_idle 15 = .ok (.invokevirtual 407, 3) := by decide +kernel
theorem dX9_idle_18 : decode cX9_idle 18 = .ok (.ifCond .ne 6, 3) := by decide +kernel
theorem dX9_idle_21 : decode cX9_idle 21 = .ok (.bipush (-2), 2) := by decide +kernel
theorem dX9_idle_23 : decode cX9_idle 23 = .ok (.ireturn, 1) := by decide +kernel
theorem dX9_idle_24 : decode cX9_idle 24 = .ok (.aload_n 0, 1) := by decide +kernel
theorem dX9_idle_25 : decode cX9_idle 25 = .ok (.invokevirtual 404, 3) := by decide +kernel
theorem dX9_idle_28 : decode cX9_idle 28 = .ok (.aload_n 0, 1) := by decide +kernel
theorem dX9_idle_29 : decode cX9_idle 29 = .ok (.getfield 71, 3) := by decide +kernel
theorem dX9_idle_32 : decode cX9_idle 32 = .ok (.bipush 40, 2) := by decide +kernel
theorem dX9_idle_34 : decode cX9_idle 34 = .ok (.iload_n 1, 1) := by decide +kernel
theorem dX9_idle_35 : decode cX9_idle 35 = .ok (.imul, 1) := by decide +kernel
theorem dX9_idle_36 : decode cX9_idle 36 = .ok (.iload_n 2, 1) := by decide +kernel
theorem dX9_idle_37 : decode cX9_idle 37 = .ok (.iadd, 1) := by decide +kernel
theorem dX9_idle_38 : decode cX9_idle 38 = .ok (.iaload, 1) := by decide +kernel
theorem dX9_idle_39 : decode cX9_idle 39 = .ok (.ireturn, 1) := by decide +kernel
theorem dX9_waits_0 : decode cX9_waits 0 = .ok (.aload_n 0, 1) := by decide +kernel
theorem dX9_waits_1 : decode cX9_waits 1 = .ok (.iconst 0, 1) := by decide +kernel
theorem dX9_waits_2 : decode cX9_waits 2 = .ok (.putfield 95, 3) := by decide +kernel
theorem dX9_waits_5 : decode cX9_waits 5 = .ok (.aload_n 0, 1) := by decide +kernel
theorem dX9_waits_6 : decode cX9_waits 6 = .ok (.iload_n 1, 1) := by decide +kernel
theorem dX9_waits_7 : decode cX9_waits 7 = .ok (.invokevirtual 288, 3) := by decide +kernel
theorem dX9_waits_10 : decode cX9_waits 10 = .ok (.ifCond .eq 11, 3) := by decide +kernel
theorem dX9_waits_13 : decode cX9_waits 13 = .ok (.aload_n 0, 1) := by decide +kernel
theorem dX9_waits_14 : decode cX9_waits 14 = .ok (.iload_n 2, 1) := by decide +kernel
theorem dX9_waits_15 : decode cX9_waits 15 = .ok (.invokevirtual 407, 3) := by decide +kernel
theorem dX9_waits_18 : decode cX9_waits 18 = .ok (.ifCond .ne 6, 3) := by decide +kernel
theorem dX9_waits_21 : decode cX9_waits 21 = .ok (.bipush (-2), 2) := by decide +kernel
theorem dX9_waits_23 : decode cX9_waits 23 = .ok (.ireturn, 1) := by decide +kernel
theorem dX9_waits_24 : decode cX9_waits 24 = .ok (.aload_n 0, 1) := by decide +kernel
theorem dX9_waits_25 : decode cX9_waits 25 = .ok (.invokevirtual 404, 3) := by decide +kernel
theorem dX9_waits_28 : decode cX9_waits 28 = .ok (.aload_n 0, 1) := by decide +kernel
theorem dX9_waits_29 : decode cX9_waits 29 = .ok (.getfield 68, 3) := by decide +kernel
theorem dX9_waits_32 : decode cX9_waits 32 = .ok (.bipush 40, 2) := by decide +kernel
theorem dX9_waits_34 : decode cX9_waits 34 = .ok (.iload_n 1, 1) := by decide +kernel
theorem dX9_waits_35 : decode cX9_waits 35 = .ok (.imul, 1) := by decide +kernel
theorem dX9_waits_36 : decode cX9_waits 36 = .ok (.iload_n 2, 1) := by decide +kernel
theorem dX9_waits_37 : decode cX9_waits 37 = .ok (.iadd, 1) := by decide +kernel
theorem dX9_waits_38 : decode cX9_waits 38 = .ok (.iaload, 1) := by decide +kernel
theorem dX9_waits_39 : decode cX9_waits 39 = .ok (.ireturn, 1) := by decide +kernel
theorem dX9_top_0 : decode cX9_top 0 = .ok (.aload_n 0, 1) := by decide +kernel
theorem dX9_top_1 : decode cX9_top 1 = .ok (.iconst 0, 1) := by decide +kernel
theorem dX9_top_2 : decode cX9_top 2 = .ok (.putfield 95, 3) := by decide +kernel
theorem dX9_top_5 : decode cX9_top 5 = .ok (.aload_n 0, 1) := by decide +kernel
theorem dX9_top_6 : decode cX9_top 6 = .ok (.iload_n 1, 1) := by decide +kernel
theorem dX9_top_7 : decode cX9_top 7 = .ok (.invokevirtual 288, 3) := by decide +kernel
theorem dX9_top_10 : decode cX9_top 10 = .ok (.ifCond .eq 11, 3) := by decide +kernel
theorem dX9_top_13 : decode cX9_top 13 = .ok (.aload_n 0, 1) := by decide +kernel
theorem dX9_top_14 : decode cX9_top 14 = .ok (.iload_n 2, 1) := by decide +kernel
theorem dX9_top_15 : decode cX9_top 15 = .ok (.invokevirtual 407, 3) := by decide +kernel
theorem dX9_top_18 : decode cX9_top 18 = .ok (.ifCond .ne 6, 3) := by decide +kernel
theorem dX9_top_21 : decode cX9_top 21 = .ok (.bipush (-2), 2) := by decide +kernel
theorem dX9_top_23 : decode cX9_top 23 = .ok (.ireturn, 1) := by decide +kernel
theorem dX9_top_24 : decode cX9_top 24 = .ok (.aload_n 0, 1) := by decide +kernel
theorem dX9_top_25 : decode cX9_top 25 = .ok (.invokevirtual 404, 3) := by decide +kernel
theorem dX9_top_28 : decode cX9_top 28 = .ok (.iconst (-1), 1) := by decide +kernel
theorem dX9_top_29 : decode cX9_top 29 = .ok (.istore_n 3, 1) := by decide +kernel
theorem dX9_top_30 : decode cX9_top 30 = .ok (.iconst 0, 1) := by decide +kernel
theorem dX9_top_31 : decode cX9_top 31 = .ok (.istore 4, 2) := by decide +kernel
theorem dX9_top_33 : decode cX9_top 33 = .ok (.iload 4, 2) := by decide +kernel
theorem dX9_top_35 : decode cX9_top 35 = .ok (.bipush 48, 2) := by decide +kernel
theorem dX9_top_37 : decode cX9_top 37 = .ok (.if_icmp .ge 46, 3) := by decide +kernel
theorem dX9_top_40 : decode cX9_top 40 = .ok (.aload_n 0, 1) := by decide +kernel
theorem dX9_top_41 : decode cX9_top 41 = .ok (.getfield 298, 3) := by decide +kernel
theorem dX9_top_44 : decode cX9_top 44 = .ok (.iconst 3, 1) := by decide +kernel
theorem dX9_top_45 : decode cX9_top 45 = .ok (.if_icmp .eq 38, 3) := by decide +kernel
theorem dX9_top_48 : decode cX9_top 48 = .ok (.aload_n 0, 1) := by decide +kernel
theorem dX9_top_49 : decode cX9_top 49 = .ok (.iload 4, 2) := by decide +kernel
theorem dX9_top_51 : decode cX9_top 51 = .ok (.iload_n 1, 1) := by decide +kernel
theorem dX9_top_52 : decode cX9_top 52 = .ok (.iload_n 2, 1) := by decide +kernel
theorem dX9_top_53 : decode cX9_top 53 = .ok (.invokevirtual 412, 3) := by decide +kernel
theorem dX9_top_56 : decode cX9_top 56 = .ok (.ifCond .eq 21, 3) := by decide +kernel
theorem dX9_top_59 : decode cX9_top 59 = .ok (.iload_n 3, 1) := by decide +kernel
theorem dX9_top_60 : decode cX9_top 60 = .ok (.iconst (-1), 1) := by decide +kernel
theorem dX9_top_61 : decode cX9_top 61 = .ok (.if_icmp .eq 13, 3) := by decide +kernel
theorem dX9_top_64 : decode cX9_top 64 = .ok (.aload_n 0, 1) := by decide +kernel
theorem dX9_top_65 : decode cX9_top 65 = .ok (.iload 4, 2) := by decide +kernel
theorem dX9_top_67 : decode cX9_top 67 = .ok (.iload_n 3, 1) := by decide +kernel
theorem dX9_top_68 : decode cX9_top 68 = .ok (.invokevirtual 319, 3) := by decide +kernel
theorem dX9_top_71 : decode cX9_top 71 = .ok (.ifCond .eq 6, 3) := by decide +kernel
theorem dX9_top_74 : decode cX9_top 74 = .ok (.iload 4, 2) := by decide +kernel
theorem dX9_top_76 : decode cX9_top 76 = .ok (.istore_n 3, 1) := by decide +kernel
theorem dX9_top_77 : decode cX9_top 77 = .ok (.iinc 4 1, 3) := by decide +kernel
theorem dX9_top_80 : decode cX9_top 80 = .ok (.goto (-47), 3) := by decide +kernel
theorem dX9_top_83 : decode cX9_top 83 = .ok (.iload_n 3, 1) := by decide +kernel
theorem dX9_top_84 : decode cX9_top 84 = .ok (.ireturn, 1) := by decide +kernel
theorem dX9_under_0 : decode cX9_under 0 = .ok (.aload_n 0, 1) := by decide +kernel
theorem dX9_under_1 : decode cX9_under 1 = .ok (.iconst 0, 1) := by decide +kernel
theorem dX9_under_2 : decode cX9_under 2 = .ok (.putfield 95, 3) := by decide +kernel
theorem dX9_under_5 : decode cX9_under 5 = .ok (.aload_n 0, 1) := by decide +kernel
theorem dX9_under_6 : decode cX9_under 6 = .ok (.iload_n 1, 1) := by decide +kernel
theorem dX9_under_7 : decode cX9_under 7 = .ok (.invokevirtual 399, 3) := by decide +kernel
theorem dX9_under_10 : decode cX9_under 10 = .ok (.ifCond .eq 11, 3) := by decide +kernel
theorem dX9_under_13 : decode cX9_under 13 = .ok (.aload_n 0, 1) := by decide +kernel
theorem dX9_under_14 : decode cX9_under 14 = .ok (.iload_n 2, 1) := by decide +kernel
theorem dX9_under_15 : decode cX9_under 15 = .ok (.invokevirtual 407, 3) := by decide +kernel
theorem dX9_under_18 : decode cX9_under 18 = .ok (.ifCond .ne 6, 3) := by decide +kernel
theorem dX9_under_21 : decode cX9_under 21 = .ok (.bipush (-2), 2) := by decide +kernel
theorem dX9_under_23 : decode cX9_under 23 = .ok (.ireturn, 1) := by decide +kernel
theorem dX9_under_24 : decode cX9_under 24 = .ok (.aload_n 0, 1) := by decide +kernel
theorem dX9_under_25 : decode cX9_under 25 = .ok (.invokevirtual 404, 3) := by decide +kernel
theorem dX9_under_28 : decode cX9_under 28 = .ok (.aload_n 0, 1) := by decide +kernel
theorem dX9_under_29 : decode cX9_under 29 = .ok (.getfield 298, 3) := by decide +kernel
theorem dX9_under_32 : decode cX9_under 32 = .ok (.iconst 3, 1) := by decide +kernel
theorem dX9_under_33 : decode cX9_under 33 = .ok (.if_icmp .eq 17, 3) := by decide +kernel
theorem dX9_under_36 : decode cX9_under 36 = .ok (.aload_n 0, 1) := by decide +kernel
theorem dX9_under_37 : decode cX9_under 37 = .ok (.iload_n 1, 1) := by decide +kernel
theorem dX9_under_38 : decode cX9_under 38 = .ok (.aload_n 0, 1) := by decide +kernel
theorem dX9_under_39 : decode cX9_under 39 = .ok (.iload_n 1, 1) := by decide +kernel
theorem dX9_under_40 : decode cX9_under 40 = .ok (.invokevirtual 279, 3) := by decide +kernel
theorem dX9_under_43 : decode cX9_under 43 = .ok (.iload_n 2, 1) := by decide +kernel
theorem dX9_under_44 : decode cX9_under 44 = .ok (.invokevirtual 412, 3) := by decide +kernel
theorem dX9_under_47 : decode cX9_under 47 = .ok (.ifCond .ne 5, 3) := by decide +kernel
theorem dX9_under_50 : decode cX9_under 50 = .ok (.iconst (-1), 1) := by decide +kernel
theorem dX9_under_51 : decode cX9_under 51 = .ok (.ireturn, 1) := by decide +kernel
theorem dX9_under_52 : decode cX9_under 52 = .ok (.iconst 0, 1) := by decide +kernel
theorem dX9_under_53 : decode cX9_under 53 = .ok (.istore_n 3, 1) := by decide +kernel
theorem dX9_under_54 : decode cX9_under 54 = .ok (.iconst 0, 1) := by decide +kernel
theorem dX9_under_55 : decode cX9_under 55 = .ok (.istore 4, 2) := by decide +kernel
theorem dX9_under_57 : decode cX9_under 57 = .ok (.iload 4, 2) := by decide +kernel
theorem dX9_under_59 : decode cX9_under 59 = .ok (.bipush 48, 2) := by decide +kernel
theorem dX9_under_61 : decode cX9_under 61 = .ok (.if_icmp .ge 48, 3) := by decide +kernel
theorem dX9_under_64 : decode cX9_under 64 = .ok (.iload_n 3, 1) := by decide +kernel
theorem dX9_under_65 : decode cX9_under 65 = .ok (.aload_n 0, 1) := by decide +kernel
theorem dX9_under_66 : decode cX9_under 66 = .ok (.iload 4, 2) := by decide +kernel
theorem dX9_under_68 : decode cX9_under 68 = .ok (.aload_n 0, 1) := by decide +kernel
theorem dX9_under_69 : decode cX9_under 69 = .ok (.iload_n 1, 1) := by decide +kernel
theorem dX9_under_70 : decode cX9_under 70 = .ok (.invokevirtual 279, 3) := by decide +kernel
theorem dX9_under_73 : decode cX9_under 73 = .ok (.iload_n 2, 1) := by decide +kernel
theorem dX9_under_74 : decode cX9_under 74 = .ok (.invokevirtual 412, 3) := by decide +kernel
theorem dX9_under_77 : decode cX9_under 77 = .ok (.ifCond .eq 23, 3) := by decide +kernel
theorem dX9_under_80 : decode cX9_under 80 = .ok (.iload 4, 2) := by decide +kernel
theorem dX9_under_82 : decode cX9_under 82 = .ok (.iload_n 1, 1) := by decide +kernel
theorem dX9_under_83 : decode cX9_under 83 = .ok (.if_icmp .eq 17, 3) := by decide +kernel
theorem dX9_under_86 : decode cX9_under 86 = .ok (.aload_n 0, 1) := by decide +kernel
theorem dX9_under_87 : decode cX9_under 87 = .ok (.iload 4, 2) := by decide +kernel
theorem dX9_under_89 : decode cX9_under 89 = .ok (.iload_n 1, 1) := by decide +kernel
theorem dX9_under_90 : decode cX9_under 90 = .ok (.invokevirtual 319, 3) := by decide +kernel
theorem dX9_under_93 : decode cX9_under 93 = .ok (.ifCond .eq 7, 3) := by decide +kernel
theorem dX9_under_96 : decode cX9_under 96 = .ok (.iconst 1, 1) := by decide +kernel
theorem dX9_under_97 : decode cX9_under 97 = .ok (.goto 4, 3) := by decide +kernel
theorem dX9_under_100 : decode cX9_under 100 = .ok (.iconst 0, 1) := by decide +kernel
theorem dX9_under_101 : decode cX9_under 101 = .ok (.iadd, 1) := by decide +kernel
theorem dX9_under_102 : decode cX9_under 102 = .ok (.istore_n 3, 1) := by decide +kernel
theorem dX9_under_103 : decode cX9_under 103 = .ok (.iinc 4 1, 3) := by decide +kernel
theorem dX9_under_106 : decode cX9_under 106 = .ok (.goto (-49), 3) := by decide +kernel
theorem dX9_under_109 : decode cX9_under 109 = .ok (.iload_n 3, 1) := by decide +kernel
theorem dX9_under_110 : decode cX9_under 110 = .ok (.ireturn, 1) := by decide +kernel
theorem dX9_heard_0 : decode cX9_heard 0 = .ok (.aload_n 0, 1) := by decide +kernel
theorem dX9_heard_1 : decode cX9_heard 1 = .ok (.iconst 0, 1) := by decide +kernel
theorem dX9_heard_2 : decode cX9_heard 2 = .ok (.putfield 95, 3) := by decide +kernel
theorem dX9_heard_5 : decode cX9_heard 5 = .ok (.aload_n 0, 1) := by decide +kernel
theorem dX9_heard_6 : decode cX9_heard 6 = .ok (.iload_n 1, 1) := by decide +kernel
theorem dX9_heard_7 : decode cX9_heard 7 = .ok (.invokevirtual 288, 3) := by decide +kernel
theorem dX9_heard_10 : decode cX9_heard 10 = .ok (.ifCond .eq 16, 3) := by decide +kernel
theorem dX9_heard_13 : decode cX9_heard 13 = .ok (.aload_n 0, 1) := by decide +kernel
theorem dX9_heard_14 : decode cX9_heard 14 = .ok (.iload_n 2, 1) := by decide +kernel
theorem dX9_heard_15 : decode cX9_heard 15 = .ok (.invokevirtual 288, 3) := by decide +kernel
theorem dX9_heard_18 : decode cX9_heard 18 = .ok (.ifCond .eq 8, 3) := by decide +kernel
theorem dX9_heard_21 : decode cX9_heard 21 = .ok (.iload_n 1, 1) := by decide +kernel
theorem dX9_heard_22 : decode cX9_heard 22 = .ok (.iload_n 2, 1) := by decide +kernel
theorem dX9_heard_23 : decode cX9_heard 23 = .ok (.if_icmp .ne 6, 3) := by decide +kernel
theorem dX9_heard_26 : decode cX9_heard 26 = .ok (.bipush (-2), 2) := by decide +kernel
theorem dX9_heard_28 : decode cX9_heard 28 = .ok (.ireturn, 1) := by decide +kernel
theorem dX9_heard_29 : decode cX9_heard 29 = .ok (.aload_n 0, 1) := by decide +kernel
theorem dX9_heard_30 : decode cX9_heard 30 = .ok (.invokevirtual 404, 3) := by decide +kernel
theorem dX9_heard_33 : decode cX9_heard 33 = .ok (.aload_n 0, 1) := by decide +kernel
theorem dX9_heard_34 : decode cX9_heard 34 = .ok (.getfield 65, 3) := by decide +kernel
theorem dX9_heard_37 : decode cX9_heard 37 = .ok (.bipush 8, 2) := by decide +kernel
theorem dX9_heard_39 : decode cX9_heard 39 = .ok (.iload_n 1, 1) := by decide +kernel
theorem dX9_heard_40 : decode cX9_heard 40 = .ok (.imul, 1) := by decide +kernel
theorem dX9_heard_41 : decode cX9_heard 41 = .ok (.iload_n 2, 1) := by decide +kernel
theorem dX9_heard_42 : decode cX9_heard 42 = .ok (.iadd, 1) := by decide +kernel
theorem dX9_heard_43 : decode cX9_heard 43 = .ok (.iaload, 1) := by decide +kernel
theorem dX9_heard_44 : decode cX9_heard 44 = .ok (.ireturn, 1) := by decide +kernel
theorem dX9_lastWait_0 : decode cX9_lastWait 0 = .ok (.aload_n 0, 1) := by decide +kernel
theorem dX9_lastWait_1 : decode cX9_lastWait 1 = .ok (.getfield 68, 3) := by decide +kernel
theorem dX9_lastWait_4 : decode cX9_lastWait 4 = .ok (.bipush 40, 2) := by decide +kernel
theorem dX9_lastWait_6 : decode cX9_lastWait 6 = .ok (.iload_n 1, 1) := by decide +kernel
theorem dX9_lastWait_7 : decode cX9_lastWait 7 = .ok (.imul, 1) := by decide +kernel
theorem dX9_lastWait_8 : decode cX9_lastWait 8 = .ok (.aload_n 0, 1) := by decide +kernel
theorem dX9_lastWait_9 : decode cX9_lastWait 9 = .ok (.getfield 34, 3) := by decide +kernel
theorem dX9_lastWait_12 : decode cX9_lastWait 12 = .ok (.iconst 0, 1) := by decide +kernel
theorem dX9_lastWait_13 : decode cX9_lastWait 13 = .ok (.iaload, 1) := by decide +kernel
theorem dX9_lastWait_14 : decode cX9_lastWait 14 = .ok (.iadd, 1) := by decide +kernel
theorem dX9_lastWait_15 : decode cX9_lastWait 15 = .ok (.iconst 1, 1) := by decide +kernel
theorem dX9_lastWait_16 : decode cX9_lastWait 16 = .ok (.isub, 1) := by decide +kernel
theorem dX9_lastWait_17 : decode cX9_lastWait 17 = .ok (.iaload, 1) := by decide +kernel
theorem dX9_lastWait_18 : decode cX9_lastWait 18 = .ok (.ireturn, 1) := by decide +kernel
theorem dX9_stuckOf_0 : decode cX9_stuckOf 0 = .ok (.iconst 0, 1) := by decide +kernel
theorem dX9_stuckOf_1 : decode cX9_stuckOf 1 = .ok (.istore_n 1, 1) := by decide +kernel
theorem dX9_stuckOf_2 : decode cX9_stuckOf 2 = .ok (.iconst 0, 1) := by decide +kernel
theorem dX9_stuckOf_3 : decode cX9_stuckOf 3 = .ok (.istore_n 2, 1) := by decide +kernel
theorem dX9_stuckOf_4 : decode cX9_stuckOf 4 = .ok (.iload_n 2, 1) := by decide +kernel
theorem dX9_stuckOf_5 : decode cX9_stuckOf 5 = .ok (.aload_n 0, 1) := by decide +kernel
theorem dX9_stuckOf_6 : decode cX9_stuckOf 6 = .ok (.getfield 34, 3) := by decide +kernel
theorem dX9_stuckOf_9 : decode cX9_stuckOf 9 = .ok (.iconst 2, 1) := by decide +kernel
theorem dX9_stuckOf_10 : decode cX9_stuckOf 10 = .ok (.iaload, 1) := by decide +kernel
theorem dX9_stuckOf_11 : decode cX9_stuckOf 11 = .ok (.if_icmp .ge 28, 3) := by decide +kernel
theorem dX9_stuckOf_14 : decode cX9_stuckOf 14 = .ok (.iload_n 1, 1) := by decide +kernel
theorem dX9_stuckOf_15 : decode cX9_stuckOf 15 = .ok (.aload_n 0, 1) := by decide +kernel
theorem dX9_stuckOf_16 : decode cX9_stuckOf 16 = .ok (.iload_n 2, 1) := by decide +kernel
theorem dX9_stuckOf_17 : decode cX9_stuckOf 17 = .ok (.invokevirtual 415, 3) := by decide +kernel
theorem dX9_stuckOf_20 : decode cX9_stuckOf 20 = .ok (.iconst (-1), 1) := by decide +kernel
theorem dX9_stuckOf_21 : decode cX9_stuckOf 21 = .ok (.if_icmp .eq 9, 3) := by decide +kernel
theorem dX9_stuckOf_24 : decode cX9_stuckOf 24 = .ok (.iconst 1, 1) := by decide +kernel
theorem dX9_stuckOf_25 : decode cX9_stuckOf 25 = .ok (.iload_n 2, 1) := by decide +kernel
theorem dX9_stuckOf_26 : decode cX9_stuckOf 26 = .ok (.ishl, 1) := by decide +kernel
theorem dX9_stuckOf_27 : decode cX9_stuckOf 27 = .ok (.goto 4, 3) := by decide +kernel
theorem dX9_stuckOf_30 : decode cX9_stuckOf 30 = .ok (.iconst 0, 1) := by decide +kernel
theorem dX9_stuckOf_31 : decode cX9_stuckOf 31 = .ok (.ior, 1) := by decide +kernel
theorem dX9_stuckOf_32 : decode cX9_stuckOf 32 = .ok (.istore_n 1, 1) := by decide +kernel
theorem dX9_stuckOf_33 : decode cX9_stuckOf 33 = .ok (.iinc 2 1, 3) := by decide +kernel
theorem dX9_stuckOf_36 : decode cX9_stuckOf 36 = .ok (.goto (-32), 3) := by decide +kernel
theorem dX9_stuckOf_39 : decode cX9_stuckOf 39 = .ok (.iload_n 1, 1) := by decide +kernel
theorem dX9_stuckOf_40 : decode cX9_stuckOf 40 = .ok (.ireturn, 1) := by decide +kernel
theorem dX9_stuck_0 : decode cX9_stuck 0 = .ok (.aload_n 0, 1) := by decide +kernel
theorem dX9_stuck_1 : decode cX9_stuck 1 = .ok (.iconst 0, 1) := by decide +kernel
theorem dX9_stuck_2 : decode cX9_stuck 2 = .ok (.putfield 95, 3) := by decide +kernel
theorem dX9_stuck_5 : decode cX9_stuck 5 = .ok (.aload_n 0, 1) := by decide +kernel
theorem dX9_stuck_6 : decode cX9_stuck 6 = .ok (.invokevirtual 295, 3) := by decide +kernel
theorem dX9_stuck_9 : decode cX9_stuck 9 = .ok (.ifCond .ne 6, 3) := by decide +kernel
theorem dX9_stuck_12 : decode cX9_stuck 12 = .ok (.bipush (-2), 2) := by decide +kernel
theorem dX9_stuck_14 : decode cX9_stuck 14 = .ok (.ireturn, 1) := by decide +kernel
theorem dX9_stuck_15 : decode cX9_stuck 15 = .ok (.aload_n 0, 1) := by decide +kernel
theorem dX9_stuck_16 : decode cX9_stuck 16 = .ok (.invokevirtual 404, 3) := by decide +kernel
theorem dX9_stuck_19 : decode cX9_stuck 19 = .ok (.aload_n 0, 1) := by decide +kernel
theorem dX9_stuck_20 : decode cX9_stuck 20 = .ok (.invokevirtual 418, 3) := by decide +kernel
theorem dX9_stuck_23 : decode cX9_stuck 23 = .ok (.ireturn, 1) := by decide +kernel
theorem dX9_ringOf_0 : decode cX9_ringOf 0 = .ok (.iconst 0, 1) := by decide +kernel
theorem dX9_ringOf_1 : decode cX9_ringOf 1 = .ok (.istore_n 2, 1) := by decide +kernel
theorem dX9_ringOf_2 : decode cX9_ringOf 2 = .ok (.iload_n 1, 1) := by decide +kernel
theorem dX9_ringOf_3 : decode cX9_ringOf 3 = .ok (.istore_n 3, 1) := by decide +kernel
theorem dX9_ringOf_4 : decode cX9_ringOf 4 = .ok (.iload_n 3, 1) := by decide +kernel
theorem dX9_ringOf_5 : decode cX9_ringOf 5 = .ok (.iconst (-1), 1) := by decide +kernel
theorem dX9_ringOf_6 : decode cX9_ringOf 6 = .ok (.if_icmp .eq 26, 3) := by decide +kernel
theorem dX9_ringOf_9 : decode cX9_ringOf 9 = .ok (.iload_n 2, 1) := by decide +kernel
theorem dX9_ringOf_10 : decode cX9_ringOf 10 = .ok (.iload_n 3, 1) := by decide +kernel
theorem dX9_ringOf_11 : decode cX9_ringOf 11 = .ok (.ishr, 1) := by decide +kernel
theorem dX9_ringOf_12 : decode cX9_ringOf 12 = .ok (.iconst 1, 1) := by decide +kernel
theorem dX9_ringOf_13 : decode cX9_ringOf 13 = .ok (.iand, 1) := by decide +kernel
theorem dX9_ringOf_14 : decode cX9_ringOf 14 = .ok (.ifCond .ne 18, 3) := by decide +kernel
theorem dX9_ringOf_17 : decode cX9_ringOf 17 = .ok (.iload_n 2, 1) := by decide +kernel
theorem dX9_ringOf_18 : decode cX9_ringOf 18 = .ok (.iconst 1, 1) := by decide +kernel
theorem dX9_ringOf_19 : decode cX9_ringOf 19 = .ok (.iload_n 3, 1) := by decide +kernel
theorem dX9_ringOf_20 : decode cX9_ringOf 20 = .ok (.ishl, 1) := by decide +kernel
theorem dX9_ringOf_21 : decode cX9_ringOf 21 = .ok (.ior, 1) := by decide +kernel
theorem dX9_ringOf_22 : decode cX9_ringOf 22 = .ok (.istore_n 2, 1) := by decide +kernel
theorem dX9_ringOf_23 : decode cX9_ringOf 23 = .ok (.aload_n 0, 1) := by decide +kernel
theorem dX9_ringOf_24 : decode cX9_ringOf 24 = .ok (.iload_n 3, 1) := by decide +kernel
theorem dX9_ringOf_25 : decode cX9_ringOf 25 = .ok (.invokevirtual 415, 3) := by decide +kernel
theorem dX9_ringOf_28 : decode cX9_ringOf 28 = .ok (.istore_n 3, 1) := by decide +kernel
theorem dX9_ringOf_29 : decode cX9_ringOf 29 = .ok (.goto (-25), 3) := by decide +kernel
theorem dX9_ringOf_32 : decode cX9_ringOf 32 = .ok (.iload_n 3, 1) := by decide +kernel
theorem dX9_ringOf_33 : decode cX9_ringOf 33 = .ok (.iload_n 1, 1) := by decide +kernel
theorem dX9_ringOf_34 : decode cX9_ringOf 34 = .ok (.if_icmp .ne 7, 3) := by decide +kernel
theorem dX9_ringOf_37 : decode cX9_ringOf 37 = .ok (.iload_n 2, 1) := by decide +kernel
theorem dX9_ringOf_38 : decode cX9_ringOf 38 = .ok (.goto 4, 3) := by decide +kernel
theorem dX9_ringOf_41 : decode cX9_ringOf 41 = .ok (.iconst 0, 1) := by decide +kernel
theorem dX9_ringOf_42 : decode cX9_ringOf 42 = .ok (.ireturn, 1) := by decide +kernel
theorem dX9_ring_0 : decode cX9_ring 0 = .ok (.aload_n 0, 1) := by decide +kernel
theorem dX9_ring_1 : decode cX9_ring 1 = .ok (.iconst 0, 1) := by decide +kernel
theorem dX9_ring_2 : decode cX9_ring 2 = .ok (.putfield 95, 3) := by decide +kernel
theorem dX9_ring_5 : decode cX9_ring 5 = .ok (.aload_n 0, 1) := by decide +kernel
theorem dX9_ring_6 : decode cX9_ring 6 = .ok (.invokevirtual 295, 3) := by decide +kernel
theorem dX9_ring_9 : decode cX9_ring 9 = .ok (.ifCond .eq 13, 3) := by decide +kernel
theorem dX9_ring_12 : decode cX9_ring 12 = .ok (.iload_n 1, 1) := by decide +kernel
theorem dX9_ring_13 : decode cX9_ring 13 = .ok (.i2l, 1) := by decide +kernel
theorem dX9_ring_14 : decode cX9_ring 14 = .ok (.lconst 0, 1) := by decide +kernel
theorem dX9_ring_15 : decode cX9_ring 15 = .ok (.lconst 1, 1) := by decide +kernel
theorem dX9_ring_16 : decode cX9_ring 16 = .ok (.invokestatic 100, 3) := by decide +kernel
theorem dX9_ring_19 : decode cX9_ring 19 = .ok (.ifCond .ne 6, 3) := by decide +kernel
theorem dX9_ring_22 : decode cX9_ring 22 = .ok (.bipush (-2), 2) := by decide +kernel
theorem dX9_ring_24 : decode cX9_ring 24 = .ok (.ireturn, 1) := by decide +kernel
theorem dX9_ring_25 : decode cX9_ring 25 = .ok (.aload_n 0, 1) := by decide +kernel
theorem dX9_ring_26 : decode cX9_ring 26 = .ok (.invokevirtual 404, 3) := by decide +kernel
theorem dX9_ring_29 : decode cX9_ring 29 = .ok (.iconst 0, 1) := by decide +kernel
theorem dX9_ring_30 : decode cX9_ring 30 = .ok (.istore_n 2, 1) := by decide +kernel
theorem dX9_ring_31 : decode cX9_ring 31 = .ok (.iconst (-1), 1) := by decide +kernel
theorem dX9_ring_32 : decode cX9_ring 32 = .ok (.istore_n 3, 1) := by decide +kernel
theorem dX9_ring_33 : decode cX9_ring 33 = .ok (.iconst 0, 1) := by decide +kernel
theorem dX9_ring_34 : decode cX9_ring 34 = .ok (.istore 4, 2) := by decide +kernel
theorem dX9_ring_36 : decode cX9_ring 36 = .ok (.iload 4, 2) := by decide +kernel
theorem dX9_ring_38 : decode cX9_ring 38 = .ok (.aload_n 0, 1) := by decide +kernel
theorem dX9_ring_39 : decode cX9_ring 39 = .ok (.getfield 34, 3) := by decide +kernel
theorem dX9_ring_42 : decode cX9_ring 42 = .ok (.iconst 2, 1) := by decide +kernel
theorem dX9_ring_43 : decode cX9_ring 43 = .ok (.iaload, 1) := by decide +kernel
theorem dX9_ring_44 : decode cX9_ring 44 = .ok (.if_icmp .ge 52, 3) := by decide +kernel
theorem dX9_ring_47 : decode cX9_ring 47 = .ok (.aload_n 0, 1) := by decide +kernel
theorem dX9_ring_48 : decode cX9_ring 48 = .ok (.iload 4, 2) := by decide +kernel
theorem dX9_ring_50 : decode cX9_ring 50 = .ok (.invokevirtual 422, 3) := by decide +kernel
theorem dX9_ring_53 : decode cX9_ring 53 = .ok (.istore 5, 2) := by decide +kernel
theorem dX9_ring_55 : decode cX9_ring 55 = .ok (.iload 5, 2) := by decide +kernel
theorem dX9_ring_57 : decode cX9_ring 57 = .ok (.ifCond .eq 33, 3) := by decide +kernel
theorem dX9_ring_60 : decode cX9_ring 60 = .ok (.iload 5, 2) := by decide +kernel
theorem dX9_ring_62 : decode cX9_ring 62 = .ok (.iconst 1, 1) := by decide +kernel
theorem dX9_ring_63 : decode cX9_ring 63 = .ok (.iload 4, 2) := by decide +kernel
theorem dX9_ring_65 : decode cX9_ring 65 = .ok (.ishl, 1) := by decide +kernel
theorem dX9_ring_66 : decode cX9_ring 66 = .ok (.iconst 1, 1) := by decide +kernel
theorem dX9_ring_67 : decode cX9_ring 67 = .ok (.isub, 1) := by decide +kernel
theorem dX9_ring_68 : decode cX9_ring 68 = .ok (.iand, 1) := by decide +kernel
theorem dX9_ring_69 : decode cX9_ring 69 = .ok (.ifCond .eq 6, 3) := by decide +kernel
theorem dX9_ring_72 : decode cX9_ring 72 = .ok (.goto 18, 3) := by decide +kernel
theorem dX9_ring_75 : decode cX9_ring 75 = .ok (.iinc 2 1, 3) := by decide +kernel
theorem dX9_ring_78 : decode cX9_ring 78 = .ok (.iload_n 3, 1) := by decide +kernel
theorem dX9_ring_79 : decode cX9_ring 79 = .ok (.iconst (-1), 1) := by decide +kernel
theorem dX9_ring_80 : decode cX9_ring 80 = .ok (.if_icmp .ne 8, 3) := by decide +kernel
theorem dX9_ring_83 : decode cX9_ring 83 = .ok (.iload 5, 2) := by decide +kernel
theorem dX9_ring_85 : decode cX9_ring 85 = .ok (.goto 4, 3) := by decide +kernel
theorem dX9_ring_88 : decode cX9_ring 88 = .ok (.iload_n 3, 1) := by decide +kernel
theorem dX9_ring_89 : decode cX9_ring 89 = .ok (.istore_n 3, 1) := by decide +kernel
theorem dX9_ring_90 : decode cX9_ring 90 = .ok (.iinc 4 1, 3) := by decide +kernel
theorem dX9_ring_93 : decode cX9_ring 93 = .ok (.goto (-57), 3) := by decide +kernel
theorem dX9_ring_96 : decode cX9_ring 96 = .ok (.iload_n 1, 1) := by decide +kernel
theorem dX9_ring_97 : decode cX9_ring 97 = .ok (.iconst 1, 1) := by decide +kernel
theorem dX9_ring_98 : decode cX9_ring 98 = .ok (.if_icmp .ne 7, 3) := by decide +kernel
theorem dX9_ring_101 : decode cX9_ring 101 = .ok (.iload_n 2, 1) := by decide +kernel
theorem dX9_ring_102 : decode cX9_ring 102 = .ok (.goto 4, 3) := by decide +kernel
theorem dX9_ring_105 : decode cX9_ring 105 = .ok (.iload_n 3, 1) := by decide +kernel
theorem dX9_ring_106 : decode cX9_ring 106 = .ok (.ireturn, 1) := by decide +kernel
theorem dX9_isInTime_0 : decode cX9_isInTime 0 = .ok (.aload_n 0, 1) := by decide +kernel
theorem dX9_isInTime_1 : decode cX9_isInTime 1 = .ok (.getfield 53, 3) := by decide +kernel
theorem dX9_isInTime_4 : decode cX9_isInTime 4 = .ok (.iload_n 1, 1) := by decide +kernel
theorem dX9_isInTime_5 : decode cX9_isInTime 5 = .ok (.iaload, 1) := by decide +kernel
theorem dX9_isInTime_6 : decode cX9_isInTime 6 = .ok (.iconst (-1), 1) := by decide +kernel
theorem dX9_isInTime_7 : decode cX9_isInTime 7 = .ok (.if_icmp .eq 44, 3) := by decide +kernel
theorem dX9_isInTime_10 : decode cX9_isInTime 10 = .ok (.aload_n 0, 1) := by decide +kernel
theorem dX9_isInTime_11 : decode cX9_isInTime 11 = .ok (.getfield 40, 3) := by decide +kernel
theorem dX9_isInTime_14 : decode cX9_isInTime 14 = .ok (.bipush 8, 2) := by decide +kernel
theorem dX9_isInTime_16 : decode cX9_isInTime 16 = .ok (.iload_n 1, 1) := by decide +kernel
theorem dX9_isInTime_17 : decode cX9_isInTime 17 = .ok (.imul, 1) := by decide +kernel
theorem dX9_isInTime_18 : decode cX9_isInTime 18 = .ok (.bipush 7, 2) := by decide +kernel
theorem dX9_isInTime_20 : decode cX9_isInTime 20 = .ok (.iadd, 1) := by decide +kernel
theorem dX9_isInTime_21 : decode cX9_isInTime 21 = .ok (.iaload, 1) := by decide +kernel
theorem dX9_isInTime_22 : decode cX9_isInTime 22 = .ok (.iconst (-1), 1) := by decide +kernel
theorem dX9_isInTime_23 : decode cX9_isInTime 23 = .ok (.if_icmp .eq 24, 3) := by decide +kernel
theorem dX9_isInTime_26 : decode cX9_isInTime 26 = .ok (.aload_n 0, 1) := by decide +kernel
theorem dX9_isInTime_27 : decode cX9_isInTime 27 = .ok (.getfield 53, 3) := by decide +kernel
theorem dX9_isInTime_30 : decode cX9_isInTime 30 = .ok (.iload_n 1, 1) := by decide +kernel
theorem dX9_isInTime_31 : decode cX9_isInTime 31 = .ok (.iaload, 1) := by decide +kernel
theorem dX9_isInTime_32 : decode cX9_isInTime 32 = .ok (.aload_n 0, 1) := by decide +kernel
theorem dX9_isInTime_33 : decode cX9_isInTime 33 = .ok (.getfield 40, 3) := by decide +kernel
theorem dX9_isInTime_36 : decode cX9_isInTime 36 = .ok (.bipush 8, 2) := by decide +kernel
theorem dX9_isInTime_38 : decode cX9_isInTime 38 = .ok (.iload_n 1, 1) := by decide +kernel
theorem dX9_isInTime_39 : decode cX9_isInTime 39 = .ok (.imul, 1) := by decide +kernel
theorem dX9_isInTime_40 : decode cX9_isInTime 40 = .ok (.bipush 7, 2) := by decide +kernel
theorem dX9_isInTime_42 : decode cX9_isInTime 42 = .ok (.iadd, 1) := by decide +kernel
theorem dX9_isInTime_43 : decode cX9_isInTime 43 = .ok (.iaload, 1) := by decide +kernel
theorem dX9_isInTime_44 : decode cX9_isInTime 44 = .ok (.if_icmp .gt 7, 3) := by decide +kernel
theorem dX9_isInTime_47 : decode cX9_isInTime 47 = .ok (.iconst 1, 1) := by decide +kernel
theorem dX9_isInTime_48 : decode cX9_isInTime 48 = .ok (.goto 4, 3) := by decide +kernel
theorem dX9_isInTime_51 : decode cX9_isInTime 51 = .ok (.iconst 0, 1) := by decide +kernel
theorem dX9_isInTime_52 : decode cX9_isInTime 52 = .ok (.ireturn, 1) := by decide +kernel
theorem dX9_worthNow_0 : decode cX9_worthNow 0 = .ok (.iconst 0, 1) := by decide +kernel
theorem dX9_worthNow_1 : decode cX9_worthNow 1 = .ok (.istore_n 1, 1) := by decide +kernel
theorem dX9_worthNow_2 : decode cX9_worthNow 2 = .ok (.iconst 0, 1) := by decide +kernel
theorem dX9_worthNow_3 : decode cX9_worthNow 3 = .ok (.istore_n 2, 1) := by decide +kernel
theorem dX9_worthNow_4 : decode cX9_worthNow 4 = .ok (.iload_n 2, 1) := by decide +kernel
theorem dX9_worthNow_5 : decode cX9_worthNow 5 = .ok (.aload_n 0, 1) := by decide +kernel
theorem dX9_worthNow_6 : decode cX9_worthNow 6 = .ok (.getfield 34, 3) := by decide +kernel
theorem dX9_worthNow_9 : decode cX9_worthNow 9 = .ok (.iconst 3, 1) := by decide +kernel
theorem dX9_worthNow_10 : decode cX9_worthNow 10 = .ok (.iaload, 1) := by decide +kernel
theorem dX9_worthNow_11 : decode cX9_worthNow 11 = .ok (.if_icmp .ge 29, 3) := by decide +kernel
theorem dX9_worthNow_14 : decode cX9_worthNow 14 = .ok (.iload_n 1, 1) := by decide +kernel
theorem dX9_worthNow_15 : decode cX9_worthNow 15 = .ok (.aload_n 0, 1) := by decide +kernel
theorem dX9_worthNow_16 : decode cX9_worthNow 16 = .ok (.iload_n 2, 1) := by decide +kernel
theorem dX9_worthNow_17 : decode cX9_worthNow 17 = .ok (.invokevirtual 425, 3) := by decide +kernel
theorem dX9_worthNow_20 : decode cX9_worthNow 20 = .ok (.ifCond .eq 11, 3) := by decide +kernel
theorem dX9_worthNow_23 : decode cX9_worthNow 23 = .ok (.aload_n 0, 1) := by decide +kernel
theorem dX9_worthNow_24 : decode cX9_worthNow 24 = .ok (.iload_n 2, 1) := by decide +kernel
theorem dX9_worthNow_25 : decode cX9_worthNow 25 = .ok (.invokevirtual 285, 3) := by decide +kernel
theorem dX9_worthNow_28 : decode cX9_worthNow 28 = .ok (.goto 4, 3) := by decide +kernel
theorem dX9_worthNow_31 : decode cX9_worthNow 31 = .ok (.iconst 0, 1) := by decide +kernel
theorem dX9_worthNow_32 : decode cX9_worthNow 32 = .ok (.iadd, 1) := by decide +kernel
theorem dX9_worthNow_33 : decode cX9_worthNow 33 = .ok (.istore_n 1, 1) := by decide +kernel
theorem dX9_worthNow_34 : decode cX9_worthNow 34 = .ok (.iinc 2 1, 3) := by decide +kernel
theorem dX9_worthNow_37 : decode cX9_worthNow 37 = .ok (.goto (-33), 3) := by decide +kernel
theorem dX9_worthNow_40 : decode cX9_worthNow 40 = .ok (.iload_n 1, 1) := by decide +kernel
theorem dX9_worthNow_41 : decode cX9_worthNow 41 = .ok (.ireturn, 1) := by decide +kernel
theorem dX9_worth_0 : decode cX9_worth 0 = .ok (.aload_n 0, 1) := by decide +kernel
theorem dX9_worth_1 : decode cX9_worth 1 = .ok (.iconst 0, 1) := by decide +kernel
theorem dX9_worth_2 : decode cX9_worth 2 = .ok (.putfield 95, 3) := by decide +kernel
theorem dX9_worth_5 : decode cX9_worth 5 = .ok (.aload_n 0, 1) := by decide +kernel
theorem dX9_worth_6 : decode cX9_worth 6 = .ok (.invokevirtual 295, 3) := by decide +kernel
theorem dX9_worth_9 : decode cX9_worth 9 = .ok (.ifCond .ne 6, 3) := by decide +kernel
theorem dX9_worth_12 : decode cX9_worth 12 = .ok (.bipush (-2), 2) := by decide +kernel
theorem dX9_worth_14 : decode cX9_worth 14 = .ok (.ireturn, 1) := by decide +kernel
theorem dX9_worth_15 : decode cX9_worth 15 = .ok (.aload_n 0, 1) := by decide +kernel
theorem dX9_worth_16 : decode cX9_worth 16 = .ok (.invokevirtual 404, 3) := by decide +kernel
theorem dX9_worth_19 : decode cX9_worth 19 = .ok (.aload_n 0, 1) := by decide +kernel
theorem dX9_worth_20 : decode cX9_worth 20 = .ok (.invokevirtual 428, 3) := by decide +kernel
theorem dX9_worth_23 : decode cX9_worth 23 = .ok (.ireturn, 1) := by decide +kernel
theorem dX9_lateNow_0 : decode cX9_lateNow 0 = .ok (.iconst 0, 1) := by decide +kernel
theorem dX9_lateNow_1 : decode cX9_lateNow 1 = .ok (.istore_n 1, 1) := by decide +kernel
theorem dX9_lateNow_2 : decode cX9_lateNow 2 = .ok (.iconst 0, 1) := by decide +kernel
theorem dX9_lateNow_3 : decode cX9_lateNow 3 = .ok (.istore_n 2, 1) := by decide +kernel
theorem dX9_lateNow_4 : decode cX9_lateNow 4 = .ok (.iload_n 2, 1) := by decide +kernel
theorem dX9_lateNow_5 : decode cX9_lateNow 5 = .ok (.aload_n 0, 1) := by decide +kernel
theorem dX9_lateNow_6 : decode cX9_lateNow 6 = .ok (.getfield 34, 3) := by decide +kernel
theorem dX9_lateNow_9 : decode cX9_lateNow 9 = .ok (.iconst 3, 1) := by decide +kernel
theorem dX9_lateNow_10 : decode cX9_lateNow 10 = .ok (.iaload, 1) := by decide +kernel
theorem dX9_lateNow_11 : decode cX9_lateNow 11 = .ok (.if_icmp .ge 25, 3) := by decide +kernel
theorem dX9_lateNow_14 : decode cX9_lateNow 14 = .ok (.iload_n 1, 1) := by decide +kernel
theorem dX9_lateNow_15 : decode cX9_lateNow 15 = .ok (.aload_n 0, 1) := by decide +kernel
theorem dX9_lateNow_16 : decode cX9_lateNow 16 = .ok (.iload_n 2, 1) := by decide +kernel
theorem dX9_lateNow_17 : decode cX9_lateNow 17 = .ok (.invokevirtual 425, 3) := by decide +kernel
theorem dX9_lateNow_20 : decode cX9_lateNow 20 = .ok (.ifCond .eq 7, 3) := by decide +kernel
theorem dX9_lateNow_23 : decode cX9_lateNow 23 = .ok (.iconst 0, 1) := by decide +kernel
theorem dX9_lateNow_24 : decode cX9_lateNow 24 = .ok (.goto 4, 3) := by decide +kernel
theorem dX9_lateNow_27 : decode cX9_lateNow 27 = .ok (.iconst 1, 1) := by decide +kernel
theorem dX9_lateNow_28 : decode cX9_lateNow 28 = .ok (.iadd, 1) := by decide +kernel
theorem dX9_lateNow_29 : decode cX9_lateNow 29 = .ok (.istore_n 1, 1) := by decide +kernel
theorem dX9_lateNow_30 : decode cX9_lateNow 30 = .ok (.iinc 2 1, 3) := by decide +kernel
theorem dX9_lateNow_33 : decode cX9_lateNow 33 = .ok (.goto (-29), 3) := by decide +kernel
theorem dX9_lateNow_36 : decode cX9_lateNow 36 = .ok (.iload_n 1, 1) := by decide +kernel
theorem dX9_lateNow_37 : decode cX9_lateNow 37 = .ok (.ireturn, 1) := by decide +kernel
theorem dX9_late_0 : decode cX9_late 0 = .ok (.aload_n 0, 1) := by decide +kernel
theorem dX9_late_1 : decode cX9_late 1 = .ok (.iconst 0, 1) := by decide +kernel
theorem dX9_late_2 : decode cX9_late 2 = .ok (.putfield 95, 3) := by decide +kernel
theorem dX9_late_5 : decode cX9_late 5 = .ok (.aload_n 0, 1) := by decide +kernel
theorem dX9_late_6 : decode cX9_late 6 = .ok (.invokevirtual 295, 3) := by decide +kernel
theorem dX9_late_9 : decode cX9_late 9 = .ok (.ifCond .eq 13, 3) := by decide +kernel
theorem dX9_late_12 : decode cX9_late 12 = .ok (.iload_n 1, 1) := by decide +kernel
theorem dX9_late_13 : decode cX9_late 13 = .ok (.i2l, 1) := by decide +kernel
theorem dX9_late_14 : decode cX9_late 14 = .ok (.lconst 0, 1) := by decide +kernel
theorem dX9_late_15 : decode cX9_late 15 = .ok (.lconst 1, 1) := by decide +kernel
theorem dX9_late_16 : decode cX9_late 16 = .ok (.invokestatic 100, 3) := by decide +kernel
theorem dX9_late_19 : decode cX9_late 19 = .ok (.ifCond .ne 6, 3) := by decide +kernel
theorem dX9_late_22 : decode cX9_late 22 = .ok (.bipush (-2), 2) := by decide +kernel
theorem dX9_late_24 : decode cX9_late 24 = .ok (.ireturn, 1) := by decide +kernel
theorem dX9_late_25 : decode cX9_late 25 = .ok (.aload_n 0, 1) := by decide +kernel
theorem dX9_late_26 : decode cX9_late 26 = .ok (.invokevirtual 404, 3) := by decide +kernel
theorem dX9_late_29 : decode cX9_late 29 = .ok (.iload_n 1, 1) := by decide +kernel
theorem dX9_late_30 : decode cX9_late 30 = .ok (.ifCond .ne 8, 3) := by decide +kernel
theorem dX9_late_33 : decode cX9_late 33 = .ok (.aload_n 0, 1) := by decide +kernel
theorem dX9_late_34 : decode cX9_late 34 = .ok (.invokevirtual 431, 3) := by decide +kernel
theorem dX9_late_37 : decode cX9_late 37 = .ok (.ireturn, 1) := by decide +kernel
theorem dX9_late_38 : decode cX9_late 38 = .ok (.iconst 0, 1) := by decide +kernel
theorem dX9_late_39 : decode cX9_late 39 = .ok (.istore_n 2, 1) := by decide +kernel
theorem dX9_late_40 : decode cX9_late 40 = .ok (.iload_n 2, 1) := by decide +kernel
theorem dX9_late_41 : decode cX9_late 41 = .ok (.aload_n 0, 1) := by decide +kernel
theorem dX9_late_42 : decode cX9_late 42 = .ok (.getfield 34, 3) := by decide +kernel
theorem dX9_late_45 : decode cX9_late 45 = .ok (.iconst 3, 1) := by decide +kernel
theorem dX9_late_46 : decode cX9_late 46 = .ok (.iaload, 1) := by decide +kernel
theorem dX9_late_47 : decode cX9_late 47 = .ok (.if_icmp .ge 19, 3) := by decide +kernel
theorem dX9_late_50 : decode cX9_late 50 = .ok (.aload_n 0, 1) := by decide +kernel
theorem dX9_late_51 : decode cX9_late 51 = .ok (.iload_n 2, 1) := by decide +kernel
theorem dX9_late_52 : decode cX9_late 52 = .ok (.invokevirtual 425, 3) := by decide +kernel
theorem dX9_late_55 : decode cX9_late 55 = .ok (.ifCond .ne 5, 3) := by decide +kernel
theorem dX9_late_58 : decode cX9_late 58 = .ok (.iload_n 2, 1) := by decide +kernel
theorem dX9_late_59 : decode cX9_late 59 = .ok (.ireturn, 1) := by decide +kernel
theorem dX9_late_60 : decode cX9_late 60 = .ok (.iinc 2 1, 3) := by decide +kernel
theorem dX9_late_63 : decode cX9_late 63 = .ok (.goto (-23), 3) := by decide +kernel
theorem dX9_late_66 : decode cX9_late 66 = .ok (.iconst (-1), 1) := by decide +kernel
theorem dX9_late_67 : decode cX9_late 67 = .ok (.ireturn, 1) := by decide +kernel
theorem dX9_answeredNow_0 : decode cX9_answeredNow 0 = .ok (.iconst 0, 1) := by decide +kernel
theorem dX9_answeredNow_1 : decode cX9_answeredNow 1 = .ok (.istore_n 1, 1) := by decide +kernel
theorem dX9_answeredNow_2 : decode cX9_answeredNow 2 = .ok (.iconst 0, 1) := by decide +kernel
theorem dX9_answeredNow_3 : decode cX9_answeredNow 3 = .ok (.istore_n 2, 1) := by decide +kernel
theorem dX9_answeredNow_4 : decode cX9_answeredNow 4 = .ok (.iload_n 2, 1) := by decide +kernel
theorem dX9_answeredNow_5 : decode cX9_answeredNow 5 = .ok (.aload_n 0, 1) := by decide +kernel
theorem dX9_answeredNow_6 : decode cX9_answeredNow 6 = .ok (.getfield 34, 3) := by decide +kernel
theorem dX9_answeredNow_9 : decode cX9_answeredNow 9 = .ok (.iconst 3, 1) := by decide +kernel
theorem dX9_answeredNow_10 : decode cX9_answeredNow 10 = .ok (.iaload, 1) := by decide +kernel
theorem dX9_answeredNow_11 : decode cX9_answeredNow 11 = .ok (.if_icmp .ge 27, 3) := by decide +kernel
theorem dX9_answeredNow_14 : decode cX9_answeredNow 14 = .ok (.iload_n 1, 1) := by decide +kernel
theorem dX9_answeredNow_15 : decode cX9_answeredNow 15 = .ok (.aload_n 0, 1) := by decide +kernel
theorem dX9_answeredNow_16 : decode cX9_answeredNow 16 = .ok (.getfield 53, 3) := by decide +kernel
theorem dX9_answeredNow_19 : decode cX9_answeredNow 19 = .ok (.iload_n 2, 1) := by decide +kernel
theorem dX9_answeredNow_20 : decode cX9_answeredNow 20 = .ok (.iaload, 1) := by decide +kernel
theorem dX9_answeredNow_21 : decode cX9_answeredNow 21 = .ok (.iconst (-1), 1) := by decide +kernel
theorem dX9_answeredNow_22 : decode cX9_answeredNow 22 = .ok (.if_icmp .eq 7, 3) := by decide +kernel
theorem dX9_answeredNow_25 : decode cX9_answeredNow 25 = .ok (.iconst 1, 1) := by decide +kernel
theorem dX9_answeredNow_26 : decode cX9_answeredNow 26 = .ok (.goto 4, 3) := by decide +kernel
theorem dX9_answeredNow_29 : decode cX9_answeredNow 29 = .ok (.iconst 0, 1) := by decide +kernel
theorem dX9_answeredNow_30 : decode cX9_answeredNow 30 = .ok (.iadd, 1) := by decide +kernel
theorem dX9_answeredNow_31 : decode cX9_answeredNow 31 = .ok (.istore_n 1, 1) := by decide +kernel
theorem dX9_answeredNow_32 : decode cX9_answeredNow 32 = .ok (.iinc 2 1, 3) := by decide +kernel
theorem dX9_answeredNow_35 : decode cX9_answeredNow 35 = .ok (.goto (-31), 3) := by decide +kernel
theorem dX9_answeredNow_38 : decode cX9_answeredNow 38 = .ok (.iload_n 1, 1) := by decide +kernel
theorem dX9_answeredNow_39 : decode cX9_answeredNow 39 = .ok (.ireturn, 1) := by decide +kernel
theorem dX9_sum_0 : decode cX9_sum 0 = .ok (.aload_n 0, 1) := by decide +kernel
theorem dX9_sum_1 : decode cX9_sum 1 = .ok (.iconst 0, 1) := by decide +kernel
theorem dX9_sum_2 : decode cX9_sum 2 = .ok (.putfield 95, 3) := by decide +kernel
theorem dX9_sum_5 : decode cX9_sum 5 = .ok (.aload_n 0, 1) := by decide +kernel
theorem dX9_sum_6 : decode cX9_sum 6 = .ok (.invokevirtual 295, 3) := by decide +kernel
theorem dX9_sum_9 : decode cX9_sum 9 = .ok (.ifCond .eq 15, 3) := by decide +kernel
theorem dX9_sum_12 : decode cX9_sum 12 = .ok (.iload_n 1, 1) := by decide +kernel
theorem dX9_sum_13 : decode cX9_sum 13 = .ok (.i2l, 1) := by decide +kernel
theorem dX9_sum_14 : decode cX9_sum 14 = .ok (.lconst 0, 1) := by decide +kernel
theorem dX9_sum_15 : decode cX9_sum 15 = .ok (.ldc2_w 291, 3) := by decide +kernel
theorem dX9_sum_18 : decode cX9_sum 18 = .ok (.invokestatic 100, 3) := by decide +kernel
theorem dX9_sum_21 : decode cX9_sum 21 = .ok (.ifCond .ne 6, 3) := by decide +kernel
theorem dX9_sum_24 : decode cX9_sum 24 = .ok (.bipush (-2), 2) := by decide +kernel
theorem dX9_sum_26 : decode cX9_sum 26 = .ok (.ireturn, 1) := by decide +kernel
theorem dX9_sum_27 : decode cX9_sum 27 = .ok (.aload_n 0, 1) := by decide +kernel
theorem dX9_sum_28 : decode cX9_sum 28 = .ok (.invokevirtual 404, 3) := by decide +kernel
theorem dX9_sum_31 : decode cX9_sum 31 = .ok (.iload_n 1, 1) := by decide +kernel
theorem dX9_sum_32 : decode cX9_sum 32 = .ok (.ifCond .ne 8, 3) := by decide +kernel
theorem dX9_sum_35 : decode cX9_sum 35 = .ok (.aload_n 0, 1) := by decide +kernel
theorem dX9_sum_36 : decode cX9_sum 36 = .ok (.invokevirtual 434, 3) := by decide +kernel
theorem dX9_sum_39 : decode cX9_sum 39 = .ok (.ireturn, 1) := by decide +kernel
theorem dX9_sum_40 : decode cX9_sum 40 = .ok (.iconst 0, 1) := by decide +kernel
theorem dX9_sum_41 : decode cX9_sum 41 = .ok (.istore_n 2, 1) := by decide +kernel
theorem dX9_sum_42 : decode cX9_sum 42 = .ok (.iconst (-1), 1) := by decide +kernel
theorem dX9_sum_43 : decode cX9_sum 43 = .ok (.istore_n 3, 1) := by decide +kernel
theorem dX9_sum_44 : decode cX9_sum 44 = .ok (.iconst 0, 1) := by decide +kernel
theorem dX9_sum_45 : decode cX9_sum 45 = .ok (.istore 4, 2) := by decide +kernel
theorem dX9_sum_47 : decode cX9_sum 47 = .ok (.iload 4, 2) := by decide +kernel
theorem dX9_sum_49 : decode cX9_sum 49 = .ok (.aload_n 0, 1) := by decide +kernel
theorem dX9_sum_50 : decode cX9_sum 50 = .ok (.getfield 34, 3) := by decide +kernel
theorem dX9_sum_53 : decode cX9_sum 53 = .ok (.iconst 3, 1) := by decide +kernel
theorem dX9_sum_54 : decode cX9_sum 54 = .ok (.iaload, 1) := by decide +kernel
theorem dX9_sum_55 : decode cX9_sum 55 = .ok (.if_icmp .ge 58, 3) := by decide +kernel
theorem dX9_sum_58 : decode cX9_sum 58 = .ok (.aload_n 0, 1) := by decide +kernel
theorem dX9_sum_59 : decode cX9_sum 59 = .ok (.getfield 53, 3) := by decide +kernel
theorem dX9_sum_62 : decode cX9_sum 62 = .ok (.iload 4, 2) := by decide +kernel
theorem dX9_sum_64 : decode cX9_sum 64 = .ok (.iaload, 1) := by decide +kernel
theorem dX9_sum_65 : decode cX9_sum 65 = .ok (.iconst (-1), 1) := by decide +kernel
theorem dX9_sum_66 : decode cX9_sum 66 = .ok (.if_icmp .ne 6, 3) := by decide +kernel
theorem dX9_sum_69 : decode cX9_sum 69 = .ok (.goto 38, 3) := by decide +kernel
theorem dX9_sum_72 : decode cX9_sum 72 = .ok (.aload_n 0, 1) := by decide +kernel
theorem dX9_sum_73 : decode cX9_sum 73 = .ok (.getfield 53, 3) := by decide +kernel
theorem dX9_sum_76 : decode cX9_sum 76 = .ok (.iload 4, 2) := by decide +kernel
theorem dX9_sum_78 : decode cX9_sum 78 = .ok (.iaload, 1) := by decide +kernel
theorem dX9_sum_79 : decode cX9_sum 79 = .ok (.aload_n 0, 1) := by decide +kernel
theorem dX9_sum_80 : decode cX9_sum 80 = .ok (.getfield 50, 3) := by decide +kernel
theorem dX9_sum_83 : decode cX9_sum 83 = .ok (.iload 4, 2) := by decide +kernel
theorem dX9_sum_85 : decode cX9_sum 85 = .ok (.iaload, 1) := by decide +kernel
theorem dX9_sum_86 : decode cX9_sum 86 = .ok (.isub, 1) := by decide +kernel
theorem dX9_sum_87 : decode cX9_sum 87 = .ok (.istore 5, 2) := by decide +kernel
theorem dX9_sum_89 : decode cX9_sum 89 = .ok (.iload_n 2, 1) := by decide +kernel
theorem dX9_sum_90 : decode cX9_sum 90 = .ok (.iload 5, 2) := by decide +kernel
theorem dX9_sum_92 : decode cX9_sum 92 = .ok (.iadd, 1) := by decide +kernel
theorem dX9_sum_93 : decode cX9_sum 93 = .ok (.istore_n 2, 1) := by decide +kernel
theorem dX9_sum_94 : decode cX9_sum 94 = .ok (.iload 5, 2) := by decide +kernel
theorem dX9_sum_96 : decode cX9_sum 96 = .ok (.iload_n 3, 1) := by decide +kernel
theorem dX9_sum_97 : decode cX9_sum 97 = .ok (.if_icmp .le 8, 3) := by decide +kernel
theorem dX9_sum_100 : decode cX9_sum 100 = .ok (.iload 5, 2) := by decide +kernel
theorem dX9_sum_102 : decode cX9_sum 102 = .ok (.goto 4, 3) := by decide +kernel
theorem dX9_sum_105 : decode cX9_sum 105 = .ok (.iload_n 3, 1) := by decide +kernel
theorem dX9_sum_106 : decode cX9_sum 106 = .ok (.istore_n 3, 1) := by decide +kernel
theorem dX9_sum_107 : decode cX9_sum 107 = .ok (.iinc 4 1, 3) := by decide +kernel
theorem dX9_sum_110 : decode cX9_sum 110 = .ok (.goto (-63), 3) := by decide +kernel
theorem dX9_sum_113 : decode cX9_sum 113 = .ok (.iload_n 1, 1) := by decide +kernel
theorem dX9_sum_114 : decode cX9_sum 114 = .ok (.iconst 1, 1) := by decide +kernel
theorem dX9_sum_115 : decode cX9_sum 115 = .ok (.if_icmp .ne 7, 3) := by decide +kernel
theorem dX9_sum_118 : decode cX9_sum 118 = .ok (.iload_n 2, 1) := by decide +kernel
theorem dX9_sum_119 : decode cX9_sum 119 = .ok (.goto 4, 3) := by decide +kernel
theorem dX9_sum_122 : decode cX9_sum 122 = .ok (.iload_n 3, 1) := by decide +kernel
theorem dX9_sum_123 : decode cX9_sum 123 = .ok (.ireturn, 1) := by decide +kernel
theorem dX9_isSeed_0 : decode cX9_isSeed 0 = .ok (.iload_n 0, 1) := by decide +kernel
theorem dX9_isSeed_1 : decode cX9_isSeed 1 = .ok (.i2l, 1) := by decide +kernel
theorem dX9_isSeed_2 : decode cX9_isSeed 2 = .ok (.lconst 0, 1) := by decide +kernel
theorem dX9_isSeed_3 : decode cX9_isSeed 3 = .ok (.ldc2_w 437, 3) := by decide +kernel
theorem dX9_isSeed_6 : decode cX9_isSeed 6 = .ok (.invokestatic 100, 3) := by decide +kernel
theorem dX9_isSeed_9 : decode cX9_isSeed 9 = .ok (.ireturn, 1) := by decide +kernel
theorem dX9_goesBy_0 : decode cX9_goesBy 0 = .ok (.aload_n 0, 1) := by decide +kernel
theorem dX9_goesBy_1 : decode cX9_goesBy 1 = .ok (.invokevirtual 393, 3) := by decide +kernel
theorem dX9_goesBy_4 : decode cX9_goesBy 4 = .ok (.aload_n 0, 1) := by decide +kernel
theorem dX9_goesBy_5 : decode cX9_goesBy 5 = .ok (.iload_n 1, 1) := by decide +kernel
theorem dX9_goesBy_6 : decode cX9_goesBy 6 = .ok (.putfield 298, 3) := by decide +kernel
theorem dX9_goesBy_9 : decode cX9_goesBy 9 = .ok (.aload_n 0, 1) := by decide +kernel
theorem dX9_goesBy_10 : decode cX9_goesBy 10 = .ok (.lload_n 2, 1) := by decide +kernel
theorem dX9_goesBy_11 : decode cX9_goesBy 11 = .ok (.putfield 301, 3) := by decide +kernel
theorem dX9_goesBy_14 : decode cX9_goesBy 14 = .ok (.aload_n 0, 1) := by decide +kernel
theorem dX9_goesBy_15 : decode cX9_goesBy 15 = .ok (.invokevirtual 396, 3) := by decide +kernel
theorem dX9_goesBy_18 : decode cX9_goesBy 18 = .ok (.return_, 1) := by decide +kernel
theorem dX9_by_0 : decode cX9_by 0 = .ok (.aload_n 0, 1) := by decide +kernel
theorem dX9_by_1 : decode cX9_by 1 = .ok (.iconst 0, 1) := by decide +kernel
theorem dX9_by_2 : decode cX9_by 2 = .ok (.putfield 95, 3) := by decide +kernel
theorem dX9_by_5 : decode cX9_by 5 = .ok (.aload_n 0, 1) := by decide +kernel
theorem dX9_by_6 : decode cX9_by 6 = .ok (.invokevirtual 295, 3) := by decide +kernel
theorem dX9_by_9 : decode cX9_by 9 = .ok (.ifCond .eq 34, 3) := by decide +kernel
theorem dX9_by_12 : decode cX9_by 12 = .ok (.iload_n 1, 1) := by decide +kernel
theorem dX9_by_13 : decode cX9_by 13 = .ok (.i2l, 1) := by decide +kernel
theorem dX9_by_14 : decode cX9_by 14 = .ok (.lconst 0, 1) := by decide +kernel
theorem dX9_by_15 : decode cX9_by 15 = .ok (.ldc2_w 98, 3) := by decide +kernel
theorem dX9_by_18 : decode cX9_by 18 = .ok (.invokestatic 100, 3) := by decide +kernel
theorem dX9_by_21 : decode cX9_by 21 = .ok (.ifCond .eq 22, 3) := by decide +kernel
theorem dX9_by_24 : decode cX9_by 24 = .ok (.iload_n 2, 1) := by decide +kernel
theorem dX9_by_25 : decode cX9_by 25 = .ok (.invokestatic 439, 3) := by decide +kernel
theorem dX9_by_28 : decode cX9_by 28 = .ok (.ifCond .eq 15, 3) := by decide +kernel
theorem dX9_by_31 : decode cX9_by 31 = .ok (.iload_n 3, 1) := by decide +kernel
theorem dX9_by_32 : decode cX9_by 32 = .ok (.i2l, 1) := by decide +kernel
theorem dX9_by_33 : decode cX9_by 33 = .ok (.lconst 0, 1) := by decide +kernel
theorem dX9_by_34 : decode cX9_by 34 = .ok (.ldc2_w 98, 3) := by decide +kernel
theorem dX9_by_37 : decode cX9_by 37 = .ok (.invokestatic 100, 3) := by decide +kernel
theorem dX9_by_40 : decode cX9_by 40 = .ok (.ifCond .ne 6, 3) := by decide +kernel
theorem dX9_by_43 : decode cX9_by 43 = .ok (.bipush (-2), 2) := by decide +kernel
theorem dX9_by_45 : decode cX9_by 45 = .ok (.ireturn, 1) := by decide +kernel
theorem dX9_by_46 : decode cX9_by 46 = .ok (.aload_n 0, 1) := by decide +kernel
theorem dX9_by_47 : decode cX9_by 47 = .ok (.iload_n 1, 1) := by decide +kernel
theorem dX9_by_48 : decode cX9_by 48 = .ok (.iload_n 2, 1) := by decide +kernel
theorem dX9_by_49 : decode cX9_by 49 = .ok (.i2l, 1) := by decide +kernel
theorem dX9_by_50 : decode cX9_by 50 = .ok (.invokevirtual 442, 3) := by decide +kernel
theorem dX9_by_53 : decode cX9_by 53 = .ok (.iload_n 3, 1) := by decide +kernel
theorem dX9_by_54 : decode cX9_by 54 = .ok (.ifCond .ne 10, 3) := by decide +kernel
theorem dX9_by_57 : decode cX9_by 57 = .ok (.aload_n 0, 1) := by decide +kernel
theorem dX9_by_58 : decode cX9_by 58 = .ok (.invokevirtual 428, 3) := by decide +kernel
theorem dX9_by_61 : decode cX9_by 61 = .ok (.goto 31, 3) := by decide +kernel
theorem dX9_by_64 : decode cX9_by 64 = .ok (.iload_n 3, 1) := by decide +kernel
theorem dX9_by_65 : decode cX9_by 65 = .ok (.iconst 1, 1) := by decide +kernel
theorem dX9_by_66 : decode cX9_by 66 = .ok (.if_icmp .ne 10, 3) := by decide +kernel
theorem dX9_by_69 : decode cX9_by 69 = .ok (.aload_n 0, 1) := by decide +kernel
theorem dX9_by_70 : decode cX9_by 70 = .ok (.invokevirtual 431, 3) := by decide +kernel
theorem dX9_by_73 : decode cX9_by 73 = .ok (.goto 19, 3) := by decide +kernel
theorem dX9_by_76 : decode cX9_by 76 = .ok (.iload_n 3, 1) := by decide +kernel
theorem dX9_by_77 : decode cX9_by 77 = .ok (.iconst 2, 1) := by decide +kernel
theorem dX9_by_78 : decode cX9_by 78 = .ok (.if_icmp .ne 10, 3) := by decide +kernel
theorem dX9_by_81 : decode cX9_by 81 = .ok (.aload_n 0, 1) := by decide +kernel
theorem dX9_by_82 : decode cX9_by 82 = .ok (.invokevirtual 434, 3) := by decide +kernel
theorem dX9_by_85 : decode cX9_by 85 = .ok (.goto 7, 3) := by decide +kernel
theorem dX9_by_88 : decode cX9_by 88 = .ok (.aload_n 0, 1) := by decide +kernel
theorem dX9_by_89 : decode cX9_by 89 = .ok (.invokevirtual 418, 3) := by decide +kernel
theorem dX9_by_92 : decode cX9_by 92 = .ok (.ireturn, 1) := by decide +kernel
theorem dX9_best_0 : decode cX9_best 0 = .ok (.aload_n 0, 1) := by decide +kernel
theorem dX9_best_1 : decode cX9_best 1 = .ok (.iconst 0, 1) := by decide +kernel
theorem dX9_best_2 : decode cX9_best 2 = .ok (.putfield 95, 3) := by decide +kernel
theorem dX9_best_5 : decode cX9_best 5 = .ok (.aload_n 0, 1) := by decide +kernel
theorem dX9_best_6 : decode cX9_best 6 = .ok (.invokevirtual 295, 3) := by decide +kernel
theorem dX9_best_9 : decode cX9_best 9 = .ok (.ifCond .ne 6, 3) := by decide +kernel
theorem dX9_best_12 : decode cX9_best 12 = .ok (.bipush (-2), 2) := by decide +kernel
theorem dX9_best_14 : decode cX9_best 14 = .ok (.ireturn, 1) := by decide +kernel
theorem dX9_best_15 : decode cX9_best 15 = .ok (.iconst (-1), 1) := by decide +kernel
theorem dX9_best_16 : decode cX9_best 16 = .ok (.istore_n 1, 1) := by decide +kernel
theorem dX9_best_17 : decode cX9_best 17 = .ok (.iconst (-1), 1) := by decide +kernel
theorem dX9_best_18 : decode cX9_best 18 = .ok (.istore_n 2, 1) := by decide +kernel
theorem dX9_best_19 : decode cX9_best 19 = .ok (.iconst 0, 1) := by decide +kernel
theorem dX9_best_20 : decode cX9_best 20 = .ok (.istore_n 3, 1) := by decide +kernel
theorem dX9_best_21 : decode cX9_best 21 = .ok (.iload_n 3, 1) := by decide +kernel
theorem dX9_best_22 : decode cX9_best 22 = .ok (.iconst 2, 1) := by decide +kernel
theorem dX9_best_23 : decode cX9_best 23 = .ok (.if_icmp .gt 33, 3) := by decide +kernel
theorem dX9_best_26 : decode cX9_best 26 = .ok (.aload_n 0, 1) := by decide +kernel
theorem dX9_best_27 : decode cX9_best 27 = .ok (.iload_n 3, 1) := by decide +kernel
theorem dX9_best_28 : decode cX9_best 28 = .ok (.lconst 1, 1) := by decide +kernel
theorem dX9_best_29 : decode cX9_best 29 = .ok (.invokevirtual 442, 3) := by decide +kernel
theorem dX9_best_32 : decode cX9_best 32 = .ok (.aload_n 0, 1) := by decide +kernel
theorem dX9_best_33 : decode cX9_best 33 = .ok (.invokevirtual 428, 3) := by decide +kernel
theorem dX9_best_36 : decode cX9_best 36 = .ok (.iload_n 2, 1) := by decide +kernel
theorem dX9_best_37 : decode cX9_best 37 = .ok (.if_icmp .gt 6, 3) := by decide +kernel
theorem dX9_best_40 : decode cX9_best 40 = .ok (.goto 10, 3) := by decide +kernel
theorem dX9_best_43 : decode cX9_best 43 = .ok (.iload_n 3, 1) := by decide +kernel
theorem dX9_best_44 : decode cX9_best 44 = .ok (.istore_n 1, 1) := by decide +kernel
theorem dX9_best_45 : decode cX9_best 45 = .ok (.aload_n 0, 1) := by decide +kernel
theorem dX9_best_46 : decode cX9_best 46 = .ok (.invokevirtual 428, 3) := by decide +kernel
theorem dX9_best_49 : decode cX9_best 49 = .ok (.istore_n 2, 1) := by decide +kernel
theorem dX9_best_50 : decode cX9_best 50 = .ok (.iinc 3 1, 3) := by decide +kernel
theorem dX9_best_53 : decode cX9_best 53 = .ok (.goto (-32), 3) := by decide +kernel
theorem dX9_best_56 : decode cX9_best 56 = .ok (.iload_n 1, 1) := by decide +kernel
theorem dX9_best_57 : decode cX9_best 57 = .ok (.ireturn, 1) := by decide +kernel
theorem dX9_orders_0 : decode cX9_orders 0 = .ok (.iload_n 1, 1) := by decide +kernel
theorem dX9_orders_1 : decode cX9_orders 1 = .ok (.aload_n 0, 1) := by decide +kernel
theorem dX9_orders_2 : decode cX9_orders 2 = .ok (.getfield 446, 3) := by decide +kernel
theorem dX9_orders_5 : decode cX9_orders 5 = .ok (.if_icmp .ne 124, 3) := by decide +kernel
theorem dX9_orders_8 : decode cX9_orders 8 = .ok (.aload_n 0, 1) := by decide +kernel
theorem dX9_orders_9 : decode cX9_orders 9 = .ok (.invokevirtual 393, 3) := by decide +kernel
theorem dX9_orders_12 : decode cX9_orders 12 = .ok (.iconst 0, 1) := by decide +kernel
theorem dX9_orders_13 : decode cX9_orders 13 = .ok (.istore_n 3, 1) := by decide +kernel
theorem dX9_orders_14 : decode cX9_orders 14 = .ok (.iload_n 3, 1) := by decide +kernel
theorem dX9_orders_15 : decode cX9_orders 15 = .ok (.aload_n 0, 1) := by decide +kernel
theorem dX9_orders_16 : decode cX9_orders 16 = .ok (.getfield 446, 3) := by decide +kernel
theorem dX9_orders_19 : decode cX9_orders 19 = .ok (.if_icmp .ge 26, 3) := by decide +kernel
theorem dX9_orders_22 : decode cX9_orders 22 = .ok (.aload_n 0, 1) := by decide +kernel
theorem dX9_orders_23 : decode cX9_orders 23 = .ok (.getfield 77, 3) := by decide +kernel
theorem dX9_orders_26 : decode cX9_orders 26 = .ok (.aload_n 0, 1) := by decide +kernel
theorem dX9_orders_27 : decode cX9_orders 27 = .ok (.getfield 83, 3) := by decide +kernel
theorem dX9_orders_30 : decode cX9_orders 30 = .ok (.iload_n 3, 1) := by decide +kernel
theorem dX9_orders_31 : decode cX9_orders 31 = .ok (.iaload, 1) := by decide +kernel
theorem dX9_orders_32 : decode cX9_orders 32 = .ok (.aload_n 0, 1) := by decide +kernel
theorem dX9_orders_33 : decode cX9_orders 33 = .ok (.getfield 80, 3) := by decide +kernel
theorem dX9_orders_36 : decode cX9_orders 36 = .ok (.iload_n 3, 1) := by decide +kernel
theorem dX9_orders_37 : decode cX9_orders 37 = .ok (.iaload, 1) := by decide +kernel
theorem dX9_orders_38 : decode cX9_orders 38 = .ok (.iastore, 1) := by decide +kernel
theorem dX9_orders_39 : decode cX9_orders 39 = .ok (.iinc 3 1, 3) := by decide +kernel
theorem dX9_orders_42 : decode cX9_orders 42 = .ok (.goto (-28), 3) := by decide +kernel
theorem dX9_orders_45 : decode cX9_orders 45 = .ok (.aload_n 0, 1) := by decide +kernel
theorem dX9_orders_46 : decode cX9_orders 46 = .ok (.invokevirtual 396, 3) := by decide +kernel
theorem dX9_orders_49 : decode cX9_orders 49 = .ok (.aload_n 0, 1) := by decide +kernel
theorem dX9_orders_50 : decode cX9_orders 50 = .ok (.invokevirtual 428, 3) := by decide +kernel
theorem dX9_orders_53 : decode cX9_orders 53 = .ok (.istore_n 3, 1) := by decide +kernel
theorem dX9_orders_54 : decode cX9_orders 54 = .ok (.aload_n 0, 1) := by decide +kernel
theorem dX9_orders_55 : decode cX9_orders 55 = .ok (.aload_n 0, 1) := by decide +kernel
theorem dX9_orders_56 : decode cX9_orders 56 = .ok (.getfield 449, 3) := by decide +kernel
theorem dX9_orders_59 : decode cX9_orders 59 = .ok (.iconst (-1), 1) := by decide +kernel
theorem dX9_orders_60 : decode cX9_orders 60 = .ok (.if_icmp .eq 11, 3) := by decide +kernel
theorem dX9_orders_63 : decode cX9_orders 63 = .ok (.iload_n 3, 1) := by decide +kernel
theorem dX9_orders_64 : decode cX9_orders 64 = .ok (.aload_n 0, 1) := by decide +kernel
theorem dX9_orders_65 : decode cX9_orders 65 = .ok (.getfield 449, 3) := by decide +kernel
theorem dX9_orders_68 : decode cX9_orders 68 = .ok (.if_icmp .ge 7, 3) := by decide +kernel
theorem dX9_orders_71 : decode cX9_orders 71 = .ok (.iload_n 3, 1) := by decide +kernel
theorem dX9_orders_72 : decode cX9_orders 72 = .ok (.goto 7, 3) := by decide +kernel
theorem dX9_orders_75 : decode cX9_orders 75 = .ok (.aload_n 0, 1) := by decide +kernel
