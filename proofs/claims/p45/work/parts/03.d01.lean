theorem dX3_takeWord_18 : decode cX3_takeWord 18 = .ok (.iconst 1, 1) := by decide +kernel
theorem dX3_takeWord_19 : decode cX3_takeWord 19 = .ok (.ireturn, 1) := by decide +kernel
theorem dX3_takeNumber_0 : decode cX3_takeNumber 0 = .ok (.aload_n 0, 1) := by decide +kernel
theorem dX3_takeNumber_1 : decode cX3_takeNumber 1 = .ok (.getfield 18, 3) := by decide +kernel
theorem dX3_takeNumber_4 : decode cX3_takeNumber 4 = .ok (.iconst 2, 1) := by decide +kernel
theorem dX3_takeNumber_5 : decode cX3_takeNumber 5 = .ok (.if_icmp .eq 9, 3) := by decide +kernel
theorem dX3_takeNumber_8 : decode cX3_takeNumber 8 = .ok (.aload_n 0, 1) := by decide +kernel
theorem dX3_takeNumber_9 : decode cX3_takeNumber 9 = .ok (.iconst 1, 1) := by decide +kernel
theorem dX3_takeNumber_10 : decode cX3_takeNumber 10 = .ok (.invokevirtual 53, 3) := by decide +kernel
theorem dX3_takeNumber_13 : decode cX3_takeNumber 13 = .ok (.ireturn, 1) := by decide +kernel
theorem dX3_takeNumber_14 : decode cX3_takeNumber 14 = .ok (.aload_n 0, 1) := by decide +kernel
theorem dX3_takeNumber_15 : decode cX3_takeNumber 15 = .ok (.getfield 28, 3) := by decide +kernel
theorem dX3_takeNumber_18 : decode cX3_takeNumber 18 = .ok (.iload_n 1, 1) := by decide +kernel
theorem dX3_takeNumber_19 : decode cX3_takeNumber 19 = .ok (.if_icmp .lt 11, 3) := by decide +kernel
theorem dX3_takeNumber_22 : decode cX3_takeNumber 22 = .ok (.aload_n 0, 1) := by decide +kernel
theorem dX3_takeNumber_23 : decode cX3_takeNumber 23 = .ok (.getfield 28, 3) := by decide +kernel
theorem dX3_takeNumber_26 : decode cX3_takeNumber 26 = .ok (.iload_n 2, 1) := by decide +kernel
theorem dX3_takeNumber_27 : decode cX3_takeNumber 27 = .ok (.if_icmp .le 11, 3) := by decide +kernel
theorem dX3_takeNumber_30 : decode cX3_takeNumber 30 = .ok (.aload_n 0, 1) := by decide +kernel
theorem dX3_takeNumber_31 : decode cX3_takeNumber 31 = .ok (.iconst 2, 1) := by decide +kernel
theorem dX3_takeNumber_32 : decode cX3_takeNumber 32 = .ok (.invokevirtual 53, 3) := by decide +kernel
theorem dX3_takeNumber_35 : decode cX3_takeNumber 35 = .ok (.ifCond .eq 7, 3) := by decide +kernel
theorem dX3_takeNumber_38 : decode cX3_takeNumber 38 = .ok (.iconst 1, 1) := by decide +kernel
theorem dX3_takeNumber_39 : decode cX3_takeNumber 39 = .ok (.goto 4, 3) := by decide +kernel
theorem dX3_takeNumber_42 : decode cX3_takeNumber 42 = .ok (.iconst 0, 1) := by decide +kernel
theorem dX3_takeNumber_43 : decode cX3_takeNumber 43 = .ok (.ireturn, 1) := by decide +kernel
theorem dX3_takePerson_0 : decode cX3_takePerson 0 = .ok (.aload_n 0, 1) := by decide +kernel
theorem dX3_takePerson_1 : decode cX3_takePerson 1 = .ok (.getfield 18, 3) := by decide +kernel
theorem dX3_takePerson_4 : decode cX3_takePerson 4 = .ok (.iconst 2, 1) := by decide +kernel
theorem dX3_takePerson_5 : decode cX3_takePerson 5 = .ok (.if_icmp .eq 9, 3) := by decide +kernel
theorem dX3_takePerson_8 : decode cX3_takePerson 8 = .ok (.aload_n 0, 1) := by decide +kernel
theorem dX3_takePerson_9 : decode cX3_takePerson 9 = .ok (.iconst 1, 1) := by decide +kernel
theorem dX3_takePerson_10 : decode cX3_takePerson 10 = .ok (.invokevirtual 53, 3) := by decide +kernel
theorem dX3_takePerson_13 : decode cX3_takePerson 13 = .ok (.ireturn, 1) := by decide +kernel
theorem dX3_takePerson_14 : decode cX3_takePerson 14 = .ok (.aload_n 0, 1) := by decide +kernel
theorem dX3_takePerson_15 : decode cX3_takePerson 15 = .ok (.getfield 28, 3) := by decide +kernel
theorem dX3_takePerson_18 : decode cX3_takePerson 18 = .ok (.aload_n 0, 1) := by decide +kernel
theorem dX3_takePerson_19 : decode cX3_takePerson 19 = .ok (.getfield 12, 3) := by decide +kernel
theorem dX3_takePerson_22 : decode cX3_takePerson 22 = .ok (.getfield 101, 3) := by decide +kernel
theorem dX3_takePerson_25 : decode cX3_takePerson 25 = .ok (.if_icmp .ge 11, 3) := by decide +kernel
theorem dX3_takePerson_28 : decode cX3_takePerson 28 = .ok (.aload_n 0, 1) := by decide +kernel
theorem dX3_takePerson_29 : decode cX3_takePerson 29 = .ok (.getfield 28, 3) := by decide +kernel
theorem dX3_takePerson_32 : decode cX3_takePerson 32 = .ok (.iload_n 1, 1) := by decide +kernel
theorem dX3_takePerson_33 : decode cX3_takePerson 33 = .ok (.if_icmp .ne 11, 3) := by decide +kernel
theorem dX3_takePerson_36 : decode cX3_takePerson 36 = .ok (.aload_n 0, 1) := by decide +kernel
theorem dX3_takePerson_37 : decode cX3_takePerson 37 = .ok (.iconst 2, 1) := by decide +kernel
theorem dX3_takePerson_38 : decode cX3_takePerson 38 = .ok (.invokevirtual 53, 3) := by decide +kernel
theorem dX3_takePerson_41 : decode cX3_takePerson 41 = .ok (.ifCond .eq 7, 3) := by decide +kernel
theorem dX3_takePerson_44 : decode cX3_takePerson 44 = .ok (.iconst 1, 1) := by decide +kernel
theorem dX3_takePerson_45 : decode cX3_takePerson 45 = .ok (.goto 4, 3) := by decide +kernel
theorem dX3_takePerson_48 : decode cX3_takePerson 48 = .ok (.iconst 0, 1) := by decide +kernel
theorem dX3_takePerson_49 : decode cX3_takePerson 49 = .ok (.ireturn, 1) := by decide +kernel
theorem dX3_fail_0 : decode cX3_fail 0 = .ok (.aload_n 0, 1) := by decide +kernel
theorem dX3_fail_1 : decode cX3_fail 1 = .ok (.iload_n 1, 1) := by decide +kernel
theorem dX3_fail_2 : decode cX3_fail 2 = .ok (.putfield 31, 3) := by decide +kernel
theorem dX3_fail_5 : decode cX3_fail 5 = .ok (.aload_n 0, 1) := by decide +kernel
theorem dX3_fail_6 : decode cX3_fail 6 = .ok (.aload_n 0, 1) := by decide +kernel
theorem dX3_fail_7 : decode cX3_fail 7 = .ok (.getfield 22, 3) := by decide +kernel
theorem dX3_fail_10 : decode cX3_fail 10 = .ok (.putfield 34, 3) := by decide +kernel
theorem dX3_fail_13 : decode cX3_fail 13 = .ok (.iconst 0, 1) := by decide +kernel
theorem dX3_fail_14 : decode cX3_fail 14 = .ok (.ireturn, 1) := by decide +kernel
theorem dX3_isWord_0 : decode cX3_isWord 0 = .ok (.aload_n 0, 1) := by decide +kernel
theorem dX3_isWord_1 : decode cX3_isWord 1 = .ok (.getfield 18, 3) := by decide +kernel
theorem dX3_isWord_4 : decode cX3_isWord 4 = .ok (.iconst 1, 1) := by decide +kernel
theorem dX3_isWord_5 : decode cX3_isWord 5 = .ok (.if_icmp .ne 19, 3) := by decide +kernel
theorem dX3_isWord_8 : decode cX3_isWord 8 = .ok (.aload_n 0, 1) := by decide +kernel
theorem dX3_isWord_9 : decode cX3_isWord 9 = .ok (.getfield 25, 3) := by decide +kernel
theorem dX3_isWord_12 : decode cX3_isWord 12 = .ok (.aload_n 0, 1) := by decide +kernel
theorem dX3_isWord_13 : decode cX3_isWord 13 = .ok (.getfield 22, 3) := by decide +kernel
theorem dX3_isWord_16 : decode cX3_isWord 16 = .ok (.isub, 1) := by decide +kernel
theorem dX3_isWord_17 : decode cX3_isWord 17 = .ok (.aload_n 1, 1) := by decide +kernel
theorem dX3_isWord_18 : decode cX3_isWord 18 = .ok (.invokevirtual 187, 3) := by decide +kernel
theorem dX3_isWord_21 : decode cX3_isWord 21 = .ok (.if_icmp .eq 5, 3) := by decide +kernel
theorem dX3_isWord_24 : decode cX3_isWord 24 = .ok (.iconst 0, 1) := by decide +kernel
theorem dX3_isWord_25 : decode cX3_isWord 25 = .ok (.ireturn, 1) := by decide +kernel
theorem dX3_isWord_26 : decode cX3_isWord 26 = .ok (.iconst 0, 1) := by decide +kernel
theorem dX3_isWord_27 : decode cX3_isWord 27 = .ok (.istore_n 2, 1) := by decide +kernel
theorem dX3_isWord_28 : decode cX3_isWord 28 = .ok (.iload_n 2, 1) := by decide +kernel
theorem dX3_isWord_29 : decode cX3_isWord 29 = .ok (.aload_n 1, 1) := by decide +kernel
theorem dX3_isWord_30 : decode cX3_isWord 30 = .ok (.invokevirtual 187, 3) := by decide +kernel
theorem dX3_isWord_33 : decode cX3_isWord 33 = .ok (.if_icmp .ge 32, 3) := by decide +kernel
theorem dX3_isWord_36 : decode cX3_isWord 36 = .ok (.aload_n 0, 1) := by decide +kernel
theorem dX3_isWord_37 : decode cX3_isWord 37 = .ok (.getfield 37, 3) := by decide +kernel
theorem dX3_isWord_40 : decode cX3_isWord 40 = .ok (.aload_n 0, 1) := by decide +kernel
theorem dX3_isWord_41 : decode cX3_isWord 41 = .ok (.getfield 22, 3) := by decide +kernel
theorem dX3_isWord_44 : decode cX3_isWord 44 = .ok (.iload_n 2, 1) := by decide +kernel
theorem dX3_isWord_45 : decode cX3_isWord 45 = .ok (.iadd, 1) := by decide +kernel
theorem dX3_isWord_46 : decode cX3_isWord 46 = .ok (.invokevirtual 192, 3) := by decide +kernel
theorem dX3_isWord_49 : decode cX3_isWord 49 = .ok (.aload_n 1, 1) := by decide +kernel
theorem dX3_isWord_50 : decode cX3_isWord 50 = .ok (.iload_n 2, 1) := by decide +kernel
theorem dX3_isWord_51 : decode cX3_isWord 51 = .ok (.invokevirtual 196, 3) := by decide +kernel
theorem dX3_isWord_54 : decode cX3_isWord 54 = .ok (.if_icmp .eq 5, 3) := by decide +kernel
theorem dX3_isWord_57 : decode cX3_isWord 57 = .ok (.iconst 0, 1) := by decide +kernel
theorem dX3_isWord_58 : decode cX3_isWord 58 = .ok (.ireturn, 1) := by decide +kernel
theorem dX3_isWord_59 : decode cX3_isWord 59 = .ok (.iinc 2 1, 3) := by decide +kernel
theorem dX3_isWord_62 : decode cX3_isWord 62 = .ok (.goto (-34), 3) := by decide +kernel
theorem dX3_isWord_65 : decode cX3_isWord 65 = .ok (.iconst 1, 1) := by decide +kernel
theorem dX3_isWord_66 : decode cX3_isWord 66 = .ok (.ireturn, 1) := by decide +kernel
theorem dX3_step_0 : decode cX3_step 0 = .ok (.aload_n 0, 1) := by decide +kernel
theorem dX3_step_1 : decode cX3_step 1 = .ok (.getfield 25, 3) := by decide +kernel
theorem dX3_step_4 : decode cX3_step 4 = .ok (.aload_n 0, 1) := by decide +kernel
theorem dX3_step_5 : decode cX3_step 5 = .ok (.getfield 37, 3) := by decide +kernel
theorem dX3_step_8 : decode cX3_step 8 = .ok (.getfield 200, 3) := by decide +kernel
theorem dX3_step_11 : decode cX3_step 11 = .ok (.if_icmp .ge 33, 3) := by decide +kernel
theorem dX3_step_14 : decode cX3_step 14 = .ok (.aload_n 0, 1) := by decide +kernel
theorem dX3_step_15 : decode cX3_step 15 = .ok (.getfield 37, 3) := by decide +kernel
theorem dX3_step_18 : decode cX3_step 18 = .ok (.aload_n 0, 1) := by decide +kernel
theorem dX3_step_19 : decode cX3_step 19 = .ok (.getfield 25, 3) := by decide +kernel
theorem dX3_step_22 : decode cX3_step 22 = .ok (.invokevirtual 192, 3) := by decide +kernel
theorem dX3_step_25 : decode cX3_step 25 = .ok (.invokestatic 202, 3) := by decide +kernel
theorem dX3_step_28 : decode cX3_step 28 = .ok (.ifCond .eq 16, 3) := by decide +kernel
theorem dX3_step_31 : decode cX3_step 31 = .ok (.aload_n 0, 1) := by decide +kernel
theorem dX3_step_32 : decode cX3_step 32 = .ok (.dup, 1) := by decide +kernel
theorem dX3_step_33 : decode cX3_step 33 = .ok (.getfield 25, 3) := by decide +kernel
theorem dX3_step_36 : decode cX3_step 36 = .ok (.iconst 1, 1) := by decide +kernel
theorem dX3_step_37 : decode cX3_step 37 = .ok (.iadd, 1) := by decide +kernel
theorem dX3_step_38 : decode cX3_step 38 = .ok (.putfield 25, 3) := by decide +kernel
theorem dX3_step_41 : decode cX3_step 41 = .ok (.goto (-41), 3) := by decide +kernel
theorem dX3_step_44 : decode cX3_step 44 = .ok (.aload_n 0, 1) := by decide +kernel
theorem dX3_step_45 : decode cX3_step 45 = .ok (.aload_n 0, 1) := by decide +kernel
theorem dX3_step_46 : decode cX3_step 46 = .ok (.getfield 25, 3) := by decide +kernel
theorem dX3_step_49 : decode cX3_step 49 = .ok (.putfield 22, 3) := by decide +kernel
theorem dX3_step_52 : decode cX3_step 52 = .ok (.aload_n 0, 1) := by decide +kernel
theorem dX3_step_53 : decode cX3_step 53 = .ok (.getfield 37, 3) := by decide +kernel
theorem dX3_step_56 : decode cX3_step 56 = .ok (.aload_n 0, 1) := by decide +kernel
theorem dX3_step_57 : decode cX3_step 57 = .ok (.getfield 25, 3) := by decide +kernel
theorem dX3_step_60 : decode cX3_step 60 = .ok (.invokevirtual 192, 3) := by decide +kernel
theorem dX3_step_63 : decode cX3_step 63 = .ok (.istore_n 1, 1) := by decide +kernel
theorem dX3_step_64 : decode cX3_step 64 = .ok (.iload_n 1, 1) := by decide +kernel
theorem dX3_step_65 : decode cX3_step 65 = .ok (.iconst (-1), 1) := by decide +kernel
theorem dX3_step_66 : decode cX3_step 66 = .ok (.if_icmp .ne 11, 3) := by decide +kernel
theorem dX3_step_69 : decode cX3_step 69 = .ok (.aload_n 0, 1) := by decide +kernel
theorem dX3_step_70 : decode cX3_step 70 = .ok (.iconst 0, 1) := by decide +kernel
theorem dX3_step_71 : decode cX3_step 71 = .ok (.putfield 18, 3) := by decide +kernel
theorem dX3_step_74 : decode cX3_step 74 = .ok (.goto 176, 3) := by decide +kernel
theorem dX3_step_77 : decode cX3_step 77 = .ok (.iload_n 1, 1) := by decide +kernel
theorem dX3_step_78 : decode cX3_step 78 = .ok (.invokestatic 205, 3) := by decide +kernel
theorem dX3_step_81 : decode cX3_step 81 = .ok (.ifCond .eq 52, 3) := by decide +kernel
theorem dX3_step_84 : decode cX3_step 84 = .ok (.aload_n 0, 1) := by decide +kernel
theorem dX3_step_85 : decode cX3_step 85 = .ok (.iconst 1, 1) := by decide +kernel
theorem dX3_step_86 : decode cX3_step 86 = .ok (.putfield 18, 3) := by decide +kernel
theorem dX3_step_89 : decode cX3_step 89 = .ok (.aload_n 0, 1) := by decide +kernel
theorem dX3_step_90 : decode cX3_step 90 = .ok (.getfield 25, 3) := by decide +kernel
theorem dX3_step_93 : decode cX3_step 93 = .ok (.aload_n 0, 1) := by decide +kernel
theorem dX3_step_94 : decode cX3_step 94 = .ok (.getfield 37, 3) := by decide +kernel
theorem dX3_step_97 : decode cX3_step 97 = .ok (.getfield 200, 3) := by decide +kernel
theorem dX3_step_100 : decode cX3_step 100 = .ok (.if_icmp .ge 150, 3) := by decide +kernel
theorem dX3_step_103 : decode cX3_step 103 = .ok (.aload_n 0, 1) := by decide +kernel
theorem dX3_step_104 : decode cX3_step 104 = .ok (.getfield 37, 3) := by decide +kernel
theorem dX3_step_107 : decode cX3_step 107 = .ok (.aload_n 0, 1) := by decide +kernel
theorem dX3_step_108 : decode cX3_step 108 = .ok (.getfield 25, 3) := by decide +kernel
theorem dX3_step_111 : decode cX3_step 111 = .ok (.invokevirtual 192, 3) := by decide +kernel
theorem dX3_step_114 : decode cX3_step 114 = .ok (.invokestatic 205, 3) := by decide +kernel
theorem dX3_step_117 : decode cX3_step 117 = .ok (.ifCond .eq 133, 3) := by decide +kernel
theorem dX3_step_120 : decode cX3_step 120 = .ok (.aload_n 0, 1) := by decide +kernel
theorem dX3_step_121 : decode cX3_step 121 = .ok (.dup, 1) := by decide +kernel
theorem dX3_step_122 : decode cX3_step 122 = .ok (.getfield 25, 3) := by decide +kernel
theorem dX3_step_125 : decode cX3_step 125 = .ok (.iconst 1, 1) := by decide +kernel
theorem dX3_step_126 : decode cX3_step 126 = .ok (.iadd, 1) := by decide +kernel
theorem dX3_step_127 : decode cX3_step 127 = .ok (.putfield 25, 3) := by decide +kernel
theorem dX3_step_130 : decode cX3_step 130 = .ok (.goto (-41), 3) := by decide +kernel
theorem dX3_step_133 : decode cX3_step 133 = .ok (.iload_n 1, 1) := by decide +kernel
theorem dX3_step_134 : decode cX3_step 134 = .ok (.invokestatic 208, 3) := by decide +kernel
theorem dX3_step_137 : decode cX3_step 137 = .ok (.ifCond .eq 88, 3) := by decide +kernel
theorem dX3_step_140 : decode cX3_step 140 = .ok (.aload_n 0, 1) := by decide +kernel
theorem dX3_step_141 : decode cX3_step 141 = .ok (.iconst 2, 1) := by decide +kernel
theorem dX3_step_142 : decode cX3_step 142 = .ok (.putfield 18, 3) := by decide +kernel
theorem dX3_step_145 : decode cX3_step 145 = .ok (.aload_n 0, 1) := by decide +kernel
theorem dX3_step_146 : decode cX3_step 146 = .ok (.iconst 0, 1) := by decide +kernel
theorem dX3_step_147 : decode cX3_step 147 = .ok (.putfield 28, 3) := by decide +kernel
theorem dX3_step_150 : decode cX3_step 150 = .ok (.aload_n 0, 1) := by decide +kernel
theorem dX3_step_151 : decode cX3_step 151 = .ok (.getfield 25, 3) := by decide +kernel
theorem dX3_step_154 : decode cX3_step 154 = .ok (.aload_n 0, 1) := by decide +kernel
theorem dX3_step_155 : decode cX3_step 155 = .ok (.getfield 37, 3) := by decide +kernel
theorem dX3_step_158 : decode cX3_step 158 = .ok (.getfield 200, 3) := by decide +kernel
theorem dX3_step_161 : decode cX3_step 161 = .ok (.if_icmp .ge 89, 3) := by decide +kernel
theorem dX3_step_164 : decode cX3_step 164 = .ok (.aload_n 0, 1) := by decide +kernel
theorem dX3_step_165 : decode cX3_step 165 = .ok (.getfield 37, 3) := by decide +kernel
theorem dX3_step_168 : decode cX3_step 168 = .ok (.aload_n 0, 1) := by decide +kernel
theorem dX3_step_169 : decode cX3_step 169 = .ok (.getfield 25, 3) := by decide +kernel
theorem dX3_step_172 : decode cX3_step 172 = .ok (.invokevirtual 192, 3) := by decide +kernel
theorem dX3_step_175 : decode cX3_step 175 = .ok (.invokestatic 208, 3) := by decide +kernel
theorem dX3_step_178 : decode cX3_step 178 = .ok (.ifCond .eq 72, 3) := by decide +kernel
theorem dX3_step_181 : decode cX3_step 181 = .ok (.aload_n 0, 1) := by decide +kernel
theorem dX3_step_182 : decode cX3_step 182 = .ok (.ldc 211, 2) := by decide +kernel
theorem dX3_step_184 : decode cX3_step 184 = .ok (.aload_n 0, 1) := by decide +kernel
theorem dX3_step_185 : decode cX3_step 185 = .ok (.getfield 28, 3) := by decide +kernel
theorem dX3_step_188 : decode cX3_step 188 = .ok (.bipush 10, 2) := by decide +kernel
theorem dX3_step_190 : decode cX3_step 190 = .ok (.imul, 1) := by decide +kernel
theorem dX3_step_191 : decode cX3_step 191 = .ok (.aload_n 0, 1) := by decide +kernel
theorem dX3_step_192 : decode cX3_step 192 = .ok (.getfield 37, 3) := by decide +kernel
theorem dX3_step_195 : decode cX3_step 195 = .ok (.aload_n 0, 1) := by decide +kernel
theorem dX3_step_196 : decode cX3_step 196 = .ok (.getfield 25, 3) := by decide +kernel
theorem dX3_step_199 : decode cX3_step 199 = .ok (.invokevirtual 192, 3) := by decide +kernel
theorem dX3_step_202 : decode cX3_step 202 = .ok (.iadd, 1) := by decide +kernel
theorem dX3_step_203 : decode cX3_step 203 = .ok (.bipush 48, 2) := by decide +kernel
theorem dX3_step_205 : decode cX3_step 205 = .ok (.isub, 1) := by decide +kernel
theorem dX3_step_206 : decode cX3_step 206 = .ok (.invokestatic 212, 3) := by decide +kernel
theorem dX3_step_209 : decode cX3_step 209 = .ok (.putfield 28, 3) := by decide +kernel
theorem dX3_step_212 : decode cX3_step 212 = .ok (.aload_n 0, 1) := by decide +kernel
theorem dX3_step_213 : decode cX3_step 213 = .ok (.dup, 1) := by decide +kernel
theorem dX3_step_214 : decode cX3_step 214 = .ok (.getfield 25, 3) := by decide +kernel
theorem dX3_step_217 : decode cX3_step 217 = .ok (.iconst 1, 1) := by decide +kernel
theorem dX3_step_218 : decode cX3_step 218 = .ok (.iadd, 1) := by decide +kernel
theorem dX3_step_219 : decode cX3_step 219 = .ok (.putfield 25, 3) := by decide +kernel
theorem dX3_step_222 : decode cX3_step 222 = .ok (.goto (-72), 3) := by decide +kernel
theorem dX3_step_225 : decode cX3_step 225 = .ok (.aload_n 0, 1) := by decide +kernel
theorem dX3_step_226 : decode cX3_step 226 = .ok (.iload_n 1, 1) := by decide +kernel
theorem dX3_step_227 : decode cX3_step 227 = .ok (.bipush 59, 2) := by decide +kernel
theorem dX3_step_229 : decode cX3_step 229 = .ok (.if_icmp .ne 7, 3) := by decide +kernel
theorem dX3_step_232 : decode cX3_step 232 = .ok (.iconst 3, 1) := by decide +kernel
theorem dX3_step_233 : decode cX3_step 233 = .ok (.goto 4, 3) := by decide +kernel
theorem dX3_step_236 : decode cX3_step 236 = .ok (.iconst 4, 1) := by decide +kernel
theorem dX3_step_237 : decode cX3_step 237 = .ok (.putfield 18, 3) := by decide +kernel
theorem dX3_step_240 : decode cX3_step 240 = .ok (.aload_n 0, 1) := by decide +kernel
theorem dX3_step_241 : decode cX3_step 241 = .ok (.dup, 1) := by decide +kernel
theorem dX3_step_242 : decode cX3_step 242 = .ok (.getfield 25, 3) := by decide +kernel
theorem dX3_step_245 : decode cX3_step 245 = .ok (.iconst 1, 1) := by decide +kernel
theorem dX3_step_246 : decode cX3_step 246 = .ok (.iadd, 1) := by decide +kernel
theorem dX3_step_247 : decode cX3_step 247 = .ok (.putfield 25, 3) := by decide +kernel
theorem dX3_step_250 : decode cX3_step 250 = .ok (.return_, 1) := by decide +kernel
theorem dX3_isBlank_0 : decode cX3_isBlank 0 = .ok (.iload_n 0, 1) := by decide +kernel
theorem dX3_isBlank_1 : decode cX3_isBlank 1 = .ok (.bipush 32, 2) := by decide +kernel
theorem dX3_isBlank_3 : decode cX3_isBlank 3 = .ok (.if_icmp .eq 9, 3) := by decide +kernel
theorem dX3_isBlank_6 : decode cX3_isBlank 6 = .ok (.iload_n 0, 1) := by decide +kernel
theorem dX3_isBlank_7 : decode cX3_isBlank 7 = .ok (.bipush 10, 2) := by decide +kernel
theorem dX3_isBlank_9 : decode cX3_isBlank 9 = .ok (.if_icmp .ne 7, 3) := by decide +kernel
theorem dX3_isBlank_12 : decode cX3_isBlank 12 = .ok (.iconst 1, 1) := by decide +kernel
theorem dX3_isBlank_13 : decode cX3_isBlank 13 = .ok (.goto 4, 3) := by decide +kernel
theorem dX3_isBlank_16 : decode cX3_isBlank 16 = .ok (.iconst 0, 1) := by decide +kernel
theorem dX3_isBlank_17 : decode cX3_isBlank 17 = .ok (.ireturn, 1) := by decide +kernel
theorem dX3_isSmall_0 : decode cX3_isSmall 0 = .ok (.iload_n 0, 1) := by decide +kernel
theorem dX3_isSmall_1 : decode cX3_isSmall 1 = .ok (.bipush 97, 2) := by decide +kernel
theorem dX3_isSmall_3 : decode cX3_isSmall 3 = .ok (.if_icmp .lt 13, 3) := by decide +kernel
theorem dX3_isSmall_6 : decode cX3_isSmall 6 = .ok (.iload_n 0, 1) := by decide +kernel
theorem dX3_isSmall_7 : decode cX3_isSmall 7 = .ok (.bipush 122, 2) := by decide +kernel
theorem dX3_isSmall_9 : decode cX3_isSmall 9 = .ok (.if_icmp .gt 7, 3) := by decide +kernel
theorem dX3_isSmall_12 : decode cX3_isSmall 12 = .ok (.iconst 1, 1) := by decide +kernel
theorem dX3_isSmall_13 : decode cX3_isSmall 13 = .ok (.goto 4, 3) := by decide +kernel
theorem dX3_isSmall_16 : decode cX3_isSmall 16 = .ok (.iconst 0, 1) := by decide +kernel
theorem dX3_isSmall_17 : decode cX3_isSmall 17 = .ok (.ireturn, 1) := by decide +kernel
theorem dX3_isDigit_0 : decode cX3_isDigit 0 = .ok (.iload_n 0, 1) := by decide +kernel
theorem dX3_isDigit_1 : decode cX3_isDigit 1 = .ok (.bipush 48, 2) := by decide +kernel
theorem dX3_isDigit_3 : decode cX3_isDigit 3 = .ok (.if_icmp .lt 13, 3) := by decide +kernel
theorem dX3_isDigit_6 : decode cX3_isDigit 6 = .ok (.iload_n 0, 1) := by decide +kernel
theorem dX3_isDigit_7 : decode cX3_isDigit 7 = .ok (.bipush 57, 2) := by decide +kernel
theorem dX3_isDigit_9 : decode cX3_isDigit 9 = .ok (.if_icmp .gt 7, 3) := by decide +kernel
theorem dX3_isDigit_12 : decode cX3_isDigit 12 = .ok (.iconst 1, 1) := by decide +kernel
theorem dX3_isDigit_13 : decode cX3_isDigit 13 = .ok (.goto 4, 3) := by decide +kernel
theorem dX3_isDigit_16 : decode cX3_isDigit 16 = .ok (.iconst 0, 1) := by decide +kernel
theorem dX3_isDigit_17 : decode cX3_isDigit 17 = .ok (.ireturn, 1) := by decide +kernel
theorem dX4_init_0 : decode cX4_init 0 = .ok (.aload_n 0, 1) := by decide +kernel
theorem dX4_init_1 : decode cX4_init 1 = .ok (.invokespecial 3, 3) := by decide +kernel
theorem dX4_init_4 : decode cX4_init 4 = .ok (.aload_n 0, 1) := by decide +kernel
theorem dX4_init_5 : decode cX4_init 5 = .ok (.bipush 49, 2) := by decide +kernel
theorem dX4_init_7 : decode cX4_init 7 = .ok (.newarray .int, 2) := by decide +kernel
theorem dX4_init_9 : decode cX4_init 9 = .ok (.putfield 9, 3) := by decide +kernel
theorem dX4_init_12 : decode cX4_init 12 = .ok (.aload_n 0, 1) := by decide +kernel
theorem dX4_init_13 : decode cX4_init 13 = .ok (.bipush 49, 2) := by decide +kernel
theorem dX4_init_15 : decode cX4_init 15 = .ok (.newarray .int, 2) := by decide +kernel
theorem dX4_init_17 : decode cX4_init 17 = .ok (.putfield 15, 3) := by decide +kernel
theorem dX4_init_20 : decode cX4_init 20 = .ok (.aload_n 0, 1) := by decide +kernel
theorem dX4_init_21 : decode cX4_init 21 = .ok (.bipush 49, 2) := by decide +kernel
theorem dX4_init_23 : decode cX4_init 23 = .ok (.newarray .int, 2) := by decide +kernel
theorem dX4_init_25 : decode cX4_init 25 = .ok (.putfield 18, 3) := by decide +kernel
theorem dX4_init_28 : decode cX4_init 28 = .ok (.aload_n 0, 1) := by decide +kernel
theorem dX4_init_29 : decode cX4_init 29 = .ok (.bipush 49, 2) := by decide +kernel
theorem dX4_init_31 : decode cX4_init 31 = .ok (.newarray .int, 2) := by decide +kernel
theorem dX4_init_33 : decode cX4_init 33 = .ok (.putfield 21, 3) := by decide +kernel
theorem dX4_init_36 : decode cX4_init 36 = .ok (.aload_n 0, 1) := by decide +kernel
theorem dX4_init_37 : decode cX4_init 37 = .ok (.bipush 64, 2) := by decide +kernel
theorem dX4_init_39 : decode cX4_init 39 = .ok (.newarray .int, 2) := by decide +kernel
theorem dX4_init_41 : decode cX4_init 41 = .ok (.putfield 24, 3) := by decide +kernel
theorem dX4_init_44 : decode cX4_init 44 = .ok (.aload_n 0, 1) := by decide +kernel
theorem dX4_init_45 : decode cX4_init 45 = .ok (.bipush 8, 2) := by decide +kernel
theorem dX4_init_47 : decode cX4_init 47 = .ok (.newarray .int, 2) := by decide +kernel
theorem dX4_init_49 : decode cX4_init 49 = .ok (.putfield 27, 3) := by decide +kernel
theorem dX4_init_52 : decode cX4_init 52 = .ok (.aload_n 0, 1) := by decide +kernel
theorem dX4_init_53 : decode cX4_init 53 = .ok (.sipush 392, 3) := by decide +kernel
theorem dX4_init_56 : decode cX4_init 56 = .ok (.newarray .int, 2) := by decide +kernel
theorem dX4_init_58 : decode cX4_init 58 = .ok (.putfield 30, 3) := by decide +kernel
theorem dX4_init_61 : decode cX4_init 61 = .ok (.aload_n 0, 1) := by decide +kernel
theorem dX4_init_62 : decode cX4_init 62 = .ok (.bipush 8, 2) := by decide +kernel
theorem dX4_init_64 : decode cX4_init 64 = .ok (.newarray .int, 2) := by decide +kernel
theorem dX4_init_66 : decode cX4_init 66 = .ok (.putfield 33, 3) := by decide +kernel
theorem dX4_init_69 : decode cX4_init 69 = .ok (.aload_n 0, 1) := by decide +kernel
theorem dX4_init_70 : decode cX4_init 70 = .ok (.bipush 40, 2) := by decide +kernel
theorem dX4_init_72 : decode cX4_init 72 = .ok (.newarray .int, 2) := by decide +kernel
theorem dX4_init_74 : decode cX4_init 74 = .ok (.putfield 36, 3) := by decide +kernel
theorem dX4_init_77 : decode cX4_init 77 = .ok (.aload_n 0, 1) := by decide +kernel
theorem dX4_init_78 : decode cX4_init 78 = .ok (.bipush 98, 2) := by decide +kernel
theorem dX4_init_80 : decode cX4_init 80 = .ok (.newarray .int, 2) := by decide +kernel
theorem dX4_init_82 : decode cX4_init 82 = .ok (.putfield 39, 3) := by decide +kernel
theorem dX4_init_85 : decode cX4_init 85 = .ok (.aload_n 0, 1) := by decide +kernel
theorem dX4_init_86 : decode cX4_init 86 = .ok (.bipush 49, 2) := by decide +kernel
theorem dX4_init_88 : decode cX4_init 88 = .ok (.newarray .int, 2) := by decide +kernel
theorem dX4_init_90 : decode cX4_init 90 = .ok (.putfield 42, 3) := by decide +kernel
theorem dX4_init_93 : decode cX4_init 93 = .ok (.aload_n 0, 1) := by decide +kernel
theorem dX4_init_94 : decode cX4_init 94 = .ok (.iconst 0, 1) := by decide +kernel
theorem dX4_init_95 : decode cX4_init 95 = .ok (.putfield 45, 3) := by decide +kernel
theorem dX4_init_98 : decode cX4_init 98 = .ok (.aload_n 0, 1) := by decide +kernel
theorem dX4_init_99 : decode cX4_init 99 = .ok (.iconst 0, 1) := by decide +kernel
theorem dX4_init_100 : decode cX4_init 100 = .ok (.putfield 49, 3) := by decide +kernel
theorem dX4_init_103 : decode cX4_init 103 = .ok (.aload_n 0, 1) := by decide +kernel
theorem dX4_init_104 : decode cX4_init 104 = .ok (.lconst 0, 1) := by decide +kernel
theorem dX4_init_105 : decode cX4_init 105 = .ok (.putfield 52, 3) := by decide +kernel
theorem dX4_init_108 : decode cX4_init 108 = .ok (.aload_n 0, 1) := by decide +kernel
theorem dX4_init_109 : decode cX4_init 109 = .ok (.aload_n 1, 1) := by decide +kernel
theorem dX4_init_110 : decode cX4_init 110 = .ok (.putfield 56, 3) := by decide +kernel
theorem dX4_init_113 : decode cX4_init 113 = .ok (.return_, 1) := by decide +kernel
theorem dX4_go_0 : decode cX4_go 0 = .ok (.aload_n 0, 1) := by decide +kernel
theorem dX4_go_1 : decode cX4_go 1 = .ok (.aload_n 1, 1) := by decide +kernel
theorem dX4_go_2 : decode cX4_go 2 = .ok (.getfield 60, 3) := by decide +kernel
theorem dX4_go_5 : decode cX4_go 5 = .ok (.invokevirtual 66, 3) := by decide +kernel
theorem dX4_go_8 : decode cX4_go 8 = .ok (.iconst 0, 1) := by decide +kernel
theorem dX4_go_9 : decode cX4_go 9 = .ok (.istore_n 2, 1) := by decide +kernel
theorem dX4_go_10 : decode cX4_go 10 = .ok (.iload_n 2, 1) := by decide +kernel
theorem dX4_go_11 : decode cX4_go 11 = .ok (.aload_n 1, 1) := by decide +kernel
theorem dX4_go_12 : decode cX4_go 12 = .ok (.getfield 60, 3) := by decide +kernel
theorem dX4_go_15 : decode cX4_go 15 = .ok (.getfield 70, 3) := by decide +kernel
theorem dX4_go_18 : decode cX4_go 18 = .ok (.if_icmp .ge 119, 3) := by decide +kernel
theorem dX4_go_21 : decode cX4_go 21 = .ok (.iload_n 2, 1) := by decide +kernel
theorem dX4_go_22 : decode cX4_go 22 = .ok (.bipush 40, 2) := by decide +kernel
theorem dX4_go_24 : decode cX4_go 24 = .ok (.if_icmp .ge 113, 3) := by decide +kernel
theorem dX4_go_27 : decode cX4_go 27 = .ok (.aload_n 0, 1) := by decide +kernel
theorem dX4_go_28 : decode cX4_go 28 = .ok (.iload_n 2, 1) := by decide +kernel
theorem dX4_go_29 : decode cX4_go 29 = .ok (.putfield 49, 3) := by decide +kernel
theorem dX4_go_32 : decode cX4_go 32 = .ok (.iload_n 2, 1) := by decide +kernel
theorem dX4_go_33 : decode cX4_go 33 = .ok (.aload_n 1, 1) := by decide +kernel
theorem dX4_go_34 : decode cX4_go 34 = .ok (.getfield 75, 3) := by decide +kernel
theorem dX4_go_37 : decode cX4_go 37 = .ok (.if_icmp .ne 21, 3) := by decide +kernel
theorem dX4_go_40 : decode cX4_go 40 = .ok (.aload_n 1, 1) := by decide +kernel
theorem dX4_go_41 : decode cX4_go 41 = .ok (.getfield 78, 3) := by decide +kernel
theorem dX4_go_44 : decode cX4_go 44 = .ok (.iconst (-1), 1) := by decide +kernel
theorem dX4_go_45 : decode cX4_go 45 = .ok (.if_icmp .eq 13, 3) := by decide +kernel
theorem dX4_go_48 : decode cX4_go 48 = .ok (.aload_n 0, 1) := by decide +kernel
theorem dX4_go_49 : decode cX4_go 49 = .ok (.getfield 33, 3) := by decide +kernel
theorem dX4_go_52 : decode cX4_go 52 = .ok (.aload_n 1, 1) := by decide +kernel
theorem dX4_go_53 : decode cX4_go 53 = .ok (.getfield 78, 3) := by decide +kernel
theorem dX4_go_56 : decode cX4_go 56 = .ok (.iconst 0, 1) := by decide +kernel
theorem dX4_go_57 : decode cX4_go 57 = .ok (.iastore, 1) := by decide +kernel
theorem dX4_go_58 : decode cX4_go 58 = .ok (.aload_n 0, 1) := by decide +kernel
theorem dX4_go_59 : decode cX4_go 59 = .ok (.aload_n 1, 1) := by decide +kernel
theorem dX4_go_60 : decode cX4_go 60 = .ok (.invokevirtual 81, 3) := by decide +kernel
theorem dX4_go_63 : decode cX4_go 63 = .ok (.iload_n 2, 1) := by decide +kernel
theorem dX4_go_64 : decode cX4_go 64 = .ok (.aload_n 1, 1) := by decide +kernel
theorem dX4_go_65 : decode cX4_go 65 = .ok (.getfield 85, 3) := by decide +kernel
theorem dX4_go_68 : decode cX4_go 68 = .ok (.if_icmp .ne 23, 3) := by decide +kernel
theorem dX4_go_71 : decode cX4_go 71 = .ok (.aload_n 1, 1) := by decide +kernel
theorem dX4_go_72 : decode cX4_go 72 = .ok (.getfield 88, 3) := by decide +kernel
theorem dX4_go_75 : decode cX4_go 75 = .ok (.iconst (-1), 1) := by decide +kernel
theorem dX4_go_76 : decode cX4_go 76 = .ok (.if_icmp .eq 15, 3) := by decide +kernel
theorem dX4_go_79 : decode cX4_go 79 = .ok (.aload_n 0, 1) := by decide +kernel
theorem dX4_go_80 : decode cX4_go 80 = .ok (.aload_n 1, 1) := by decide +kernel
theorem dX4_go_81 : decode cX4_go 81 = .ok (.getfield 60, 3) := by decide +kernel
theorem dX4_go_84 : decode cX4_go 84 = .ok (.aload_n 1, 1) := by decide +kernel
theorem dX4_go_85 : decode cX4_go 85 = .ok (.getfield 88, 3) := by decide +kernel
theorem dX4_go_88 : decode cX4_go 88 = .ok (.invokevirtual 91, 3) := by decide +kernel
theorem dX4_go_91 : decode cX4_go 91 = .ok (.iconst 0, 1) := by decide +kernel
theorem dX4_go_92 : decode cX4_go 92 = .ok (.istore_n 3, 1) := by decide +kernel
theorem dX4_go_93 : decode cX4_go 93 = .ok (.iload_n 3, 1) := by decide +kernel
theorem dX4_go_94 : decode cX4_go 94 = .ok (.aload_n 1, 1) := by decide +kernel
theorem dX4_go_95 : decode cX4_go 95 = .ok (.getfield 60, 3) := by decide +kernel
theorem dX4_go_98 : decode cX4_go 98 = .ok (.getfield 95, 3) := by decide +kernel
theorem dX4_go_101 : decode cX4_go 101 = .ok (.if_icmp .ge 15, 3) := by decide +kernel
theorem dX4_go_104 : decode cX4_go 104 = .ok (.aload_n 0, 1) := by decide +kernel
theorem dX4_go_105 : decode cX4_go 105 = .ok (.aload_n 1, 1) := by decide +kernel
theorem dX4_go_106 : decode cX4_go 106 = .ok (.iload_n 3, 1) := by decide +kernel
theorem dX4_go_107 : decode cX4_go 107 = .ok (.invokevirtual 98, 3) := by decide +kernel
theorem dX4_go_110 : decode cX4_go 110 = .ok (.iinc 3 1, 3) := by decide +kernel
theorem dX4_go_113 : decode cX4_go 113 = .ok (.goto (-20), 3) := by decide +kernel
theorem dX4_go_116 : decode cX4_go 116 = .ok (.aload_n 0, 1) := by decide +kernel
theorem dX4_go_117 : decode cX4_go 117 = .ok (.getfield 56, 3) := by decide +kernel
theorem dX4_go_120 : decode cX4_go 120 = .ok (.ifnull 11, 3) := by decide +kernel
theorem dX4_go_123 : decode cX4_go 123 = .ok (.aload_n 0, 1) := by decide +kernel
theorem dX4_go_124 : decode cX4_go 124 = .ok (.aload_n 0, 1) := by decide +kernel
theorem dX4_go_125 : decode cX4_go 125 = .ok (.getfield 56, 3) := by decide +kernel
theorem dX4_go_128 : decode cX4_go 128 = .ok (.invokevirtual 102, 3) := by decide +kernel
theorem dX4_go_131 : decode cX4_go 131 = .ok (.iinc 2 1, 3) := by decide +kernel
theorem dX4_go_134 : decode cX4_go 134 = .ok (.goto (-124), 3) := by decide +kernel
theorem dX4_go_137 : decode cX4_go 137 = .ok (.return_, 1) := by decide +kernel
theorem dX4_begin_0 : decode cX4_begin 0 = .ok (.aload_n 0, 1) := by decide +kernel
theorem dX4_begin_1 : decode cX4_begin 1 = .ok (.getfield 9, 3) := by decide +kernel
theorem dX4_begin_4 : decode cX4_begin 4 = .ok (.iconst (-1), 1) := by decide +kernel
theorem dX4_begin_5 : decode cX4_begin 5 = .ok (.invokestatic 106, 3) := by decide +kernel
theorem dX4_begin_8 : decode cX4_begin 8 = .ok (.aload_n 0, 1) := by decide +kernel
theorem dX4_begin_9 : decode cX4_begin 9 = .ok (.getfield 15, 3) := by decide +kernel
theorem dX4_begin_12 : decode cX4_begin 12 = .ok (.iconst (-1), 1) := by decide +kernel
theorem dX4_begin_13 : decode cX4_begin 13 = .ok (.invokestatic 106, 3) := by decide +kernel
theorem dX4_begin_16 : decode cX4_begin 16 = .ok (.aload_n 0, 1) := by decide +kernel
theorem dX4_begin_17 : decode cX4_begin 17 = .ok (.getfield 18, 3) := by decide +kernel
theorem dX4_begin_20 : decode cX4_begin 20 = .ok (.iconst (-1), 1) := by decide +kernel
theorem dX4_begin_21 : decode cX4_begin 21 = .ok (.invokestatic 106, 3) := by decide +kernel
theorem dX4_begin_24 : decode cX4_begin 24 = .ok (.aload_n 0, 1) := by decide +kernel
theorem dX4_begin_25 : decode cX4_begin 25 = .ok (.getfield 24, 3) := by decide +kernel
theorem dX4_begin_28 : decode cX4_begin 28 = .ok (.iconst (-1), 1) := by decide +kernel
theorem dX4_begin_29 : decode cX4_begin 29 = .ok (.invokestatic 106, 3) := by decide +kernel
theorem dX4_begin_32 : decode cX4_begin 32 = .ok (.aload_n 0, 1) := by decide +kernel
theorem dX4_begin_33 : decode cX4_begin 33 = .ok (.getfield 27, 3) := by decide +kernel
theorem dX4_begin_36 : decode cX4_begin 36 = .ok (.iconst (-1), 1) := by decide +kernel
theorem dX4_begin_37 : decode cX4_begin 37 = .ok (.invokestatic 106, 3) := by decide +kernel
theorem dX4_begin_40 : decode cX4_begin 40 = .ok (.aload_n 0, 1) := by decide +kernel
theorem dX4_begin_41 : decode cX4_begin 41 = .ok (.getfield 33, 3) := by decide +kernel
theorem dX4_begin_44 : decode cX4_begin 44 = .ok (.iconst 0, 1) := by decide +kernel
theorem dX4_begin_45 : decode cX4_begin 45 = .ok (.invokestatic 106, 3) := by decide +kernel
theorem dX4_begin_48 : decode cX4_begin 48 = .ok (.aload_n 0, 1) := by decide +kernel
theorem dX4_begin_49 : decode cX4_begin 49 = .ok (.getfield 36, 3) := by decide +kernel
theorem dX4_begin_52 : decode cX4_begin 52 = .ok (.iconst (-1), 1) := by decide +kernel
theorem dX4_begin_53 : decode cX4_begin 53 = .ok (.invokestatic 106, 3) := by decide +kernel
theorem dX4_begin_56 : decode cX4_begin 56 = .ok (.aload_n 0, 1) := by decide +kernel
theorem dX4_begin_57 : decode cX4_begin 57 = .ok (.iconst 0, 1) := by decide +kernel
theorem dX4_begin_58 : decode cX4_begin 58 = .ok (.putfield 45, 3) := by decide +kernel
theorem dX4_begin_61 : decode cX4_begin 61 = .ok (.aload_n 0, 1) := by decide +kernel
theorem dX4_begin_62 : decode cX4_begin 62 = .ok (.aload_n 1, 1) := by decide +kernel
theorem dX4_begin_63 : decode cX4_begin 63 = .ok (.getfield 112, 3) := by decide +kernel
theorem dX4_begin_66 : decode cX4_begin 66 = .ok (.i2l, 1) := by decide +kernel
theorem dX4_begin_67 : decode cX4_begin 67 = .ok (.putfield 52, 3) := by decide +kernel
theorem dX4_begin_70 : decode cX4_begin 70 = .ok (.iconst 0, 1) := by decide +kernel
theorem dX4_begin_71 : decode cX4_begin 71 = .ok (.istore_n 2, 1) := by decide +kernel
theorem dX4_begin_72 : decode cX4_begin 72 = .ok (.iload_n 2, 1) := by decide +kernel
theorem dX4_begin_73 : decode cX4_begin 73 = .ok (.aload_n 1, 1) := by decide +kernel
theorem dX4_begin_74 : decode cX4_begin 74 = .ok (.getfield 115, 3) := by decide +kernel
theorem dX4_begin_77 : decode cX4_begin 77 = .ok (.if_icmp .ge 20, 3) := by decide +kernel
theorem dX4_begin_80 : decode cX4_begin 80 = .ok (.aload_n 0, 1) := by decide +kernel
theorem dX4_begin_81 : decode cX4_begin 81 = .ok (.iload_n 2, 1) := by decide +kernel
theorem dX4_begin_82 : decode cX4_begin 82 = .ok (.aload_n 1, 1) := by decide +kernel
theorem dX4_begin_83 : decode cX4_begin 83 = .ok (.getfield 118, 3) := by decide +kernel
theorem dX4_begin_86 : decode cX4_begin 86 = .ok (.iload_n 2, 1) := by decide +kernel
theorem dX4_begin_87 : decode cX4_begin 87 = .ok (.iaload, 1) := by decide +kernel
theorem dX4_begin_88 : decode cX4_begin 88 = .ok (.invokevirtual 121, 3) := by decide +kernel
theorem dX4_begin_91 : decode cX4_begin 91 = .ok (.iinc 2 1, 3) := by decide +kernel
theorem dX4_begin_94 : decode cX4_begin 94 = .ok (.goto (-22), 3) := by decide +kernel
theorem dX4_begin_97 : decode cX4_begin 97 = .ok (.aload_n 0, 1) := by decide +kernel
theorem dX4_begin_98 : decode cX4_begin 98 = .ok (.bipush 48, 2) := by decide +kernel
theorem dX4_begin_100 : decode cX4_begin 100 = .ok (.aload_n 1, 1) := by decide +kernel
theorem dX4_begin_101 : decode cX4_begin 101 = .ok (.getfield 118, 3) := by decide +kernel
theorem dX4_begin_104 : decode cX4_begin 104 = .ok (.bipush 48, 2) := by decide +kernel
theorem dX4_begin_106 : decode cX4_begin 106 = .ok (.iaload, 1) := by decide +kernel
theorem dX4_begin_107 : decode cX4_begin 107 = .ok (.invokevirtual 121, 3) := by decide +kernel
theorem dX4_begin_110 : decode cX4_begin 110 = .ok (.return_, 1) := by decide +kernel
theorem dX4_expect_0 : decode cX4_expect 0 = .ok (.iload_n 2, 1) := by decide +kernel
theorem dX4_expect_1 : decode cX4_expect 1 = .ok (.ifCond .lt 28, 3) := by decide +kernel
theorem dX4_expect_4 : decode cX4_expect 4 = .ok (.iload_n 2, 1) := by decide +kernel
theorem dX4_expect_5 : decode cX4_expect 5 = .ok (.bipush 40, 2) := by decide +kernel
theorem dX4_expect_7 : decode cX4_expect 7 = .ok (.if_icmp .ge 22, 3) := by decide +kernel
theorem dX4_expect_10 : decode cX4_expect 10 = .ok (.aload_n 0, 1) := by decide +kernel
theorem dX4_expect_11 : decode cX4_expect 11 = .ok (.getfield 39, 3) := by decide +kernel
theorem dX4_expect_14 : decode cX4_expect 14 = .ok (.iload_n 1, 1) := by decide +kernel
theorem dX4_expect_15 : decode cX4_expect 15 = .ok (.aload_n 0, 1) := by decide +kernel
theorem dX4_expect_16 : decode cX4_expect 16 = .ok (.getfield 36, 3) := by decide +kernel
theorem dX4_expect_19 : decode cX4_expect 19 = .ok (.iload_n 2, 1) := by decide +kernel
theorem dX4_expect_20 : decode cX4_expect 20 = .ok (.iaload, 1) := by decide +kernel
theorem dX4_expect_21 : decode cX4_expect 21 = .ok (.iastore, 1) := by decide +kernel
theorem dX4_expect_22 : decode cX4_expect 22 = .ok (.aload_n 0, 1) := by decide +kernel
theorem dX4_expect_23 : decode cX4_expect 23 = .ok (.getfield 36, 3) := by decide +kernel
theorem dX4_expect_26 : decode cX4_expect 26 = .ok (.iload_n 2, 1) := by decide +kernel
theorem dX4_expect_27 : decode cX4_expect 27 = .ok (.iload_n 1, 1) := by decide +kernel
theorem dX4_expect_28 : decode cX4_expect 28 = .ok (.iastore, 1) := by decide +kernel
theorem dX4_expect_29 : decode cX4_expect 29 = .ok (.return_, 1) := by decide +kernel
theorem dX4_bringPost_0 : decode cX4_bringPost 0 = .ok (.aload_n 1, 1) := by decide +kernel
theorem dX4_bringPost_1 : decode cX4_bringPost 1 = .ok (.getfield 60, 3) := by decide +kernel
theorem dX4_bringPost_4 : decode cX4_bringPost 4 = .ok (.astore_n 2, 1) := by decide +kernel
theorem dX4_bringPost_5 : decode cX4_bringPost 5 = .ok (.aload_n 0, 1) := by decide +kernel
theorem dX4_bringPost_6 : decode cX4_bringPost 6 = .ok (.getfield 36, 3) := by decide +kernel
theorem dX4_bringPost_9 : decode cX4_bringPost 9 = .ok (.aload_n 0, 1) := by decide +kernel
theorem dX4_bringPost_10 : decode cX4_bringPost 10 = .ok (.getfield 49, 3) := by decide +kernel
theorem dX4_bringPost_13 : decode cX4_bringPost 13 = .ok (.iaload, 1) := by decide +kernel
theorem dX4_bringPost_14 : decode cX4_bringPost 14 = .ok (.istore_n 3, 1) := by decide +kernel
theorem dX4_bringPost_15 : decode cX4_bringPost 15 = .ok (.iconst 0, 1) := by decide +kernel
theorem dX4_bringPost_16 : decode cX4_bringPost 16 = .ok (.istore 4, 2) := by decide +kernel
theorem dX4_bringPost_18 : decode cX4_bringPost 18 = .ok (.iload 4, 2) := by decide +kernel
theorem dX4_bringPost_20 : decode cX4_bringPost 20 = .ok (.bipush 98, 2) := by decide +kernel
theorem dX4_bringPost_22 : decode cX4_bringPost 22 = .ok (.if_icmp .ge 90, 3) := by decide +kernel
theorem dX4_bringPost_25 : decode cX4_bringPost 25 = .ok (.iload_n 3, 1) := by decide +kernel
theorem dX4_bringPost_26 : decode cX4_bringPost 26 = .ok (.iconst (-1), 1) := by decide +kernel
theorem dX4_bringPost_27 : decode cX4_bringPost 27 = .ok (.if_icmp .eq 85, 3) := by decide +kernel
theorem dX4_bringPost_30 : decode cX4_bringPost 30 = .ok (.iload_n 3, 1) := by decide +kernel
theorem dX4_bringPost_31 : decode cX4_bringPost 31 = .ok (.bipush 49, 2) := by decide +kernel
theorem dX4_bringPost_33 : decode cX4_bringPost 33 = .ok (.if_icmp .ge 12, 3) := by decide +kernel
theorem dX4_bringPost_36 : decode cX4_bringPost 36 = .ok (.aload_n 0, 1) := by decide +kernel
theorem dX4_bringPost_37 : decode cX4_bringPost 37 = .ok (.aload_n 1, 1) := by decide +kernel
theorem dX4_bringPost_38 : decode cX4_bringPost 38 = .ok (.iload_n 3, 1) := by decide +kernel
theorem dX4_bringPost_39 : decode cX4_bringPost 39 = .ok (.invokevirtual 125, 3) := by decide +kernel
theorem dX4_bringPost_42 : decode cX4_bringPost 42 = .ok (.goto 57, 3) := by decide +kernel
theorem dX4_bringPost_45 : decode cX4_bringPost 45 = .ok (.iload_n 3, 1) := by decide +kernel
theorem dX4_bringPost_46 : decode cX4_bringPost 46 = .ok (.bipush 49, 2) := by decide +kernel
theorem dX4_bringPost_48 : decode cX4_bringPost 48 = .ok (.isub, 1) := by decide +kernel
theorem dX4_bringPost_49 : decode cX4_bringPost 49 = .ok (.istore 5, 2) := by decide +kernel
theorem dX4_bringPost_51 : decode cX4_bringPost 51 = .ok (.aload_n 0, 1) := by decide +kernel
theorem dX4_bringPost_52 : decode cX4_bringPost 52 = .ok (.aload_n 2, 1) := by decide +kernel
theorem dX4_bringPost_53 : decode cX4_bringPost 53 = .ok (.getfield 128, 3) := by decide +kernel
theorem dX4_bringPost_56 : decode cX4_bringPost 56 = .ok (.iload 5, 2) := by decide +kernel
theorem dX4_bringPost_58 : decode cX4_bringPost 58 = .ok (.iaload, 1) := by decide +kernel
theorem dX4_bringPost_59 : decode cX4_bringPost 59 = .ok (.aload_n 2, 1) := by decide +kernel
theorem dX4_bringPost_60 : decode cX4_bringPost 60 = .ok (.getfield 131, 3) := by decide +kernel
theorem dX4_bringPost_63 : decode cX4_bringPost 63 = .ok (.iload 5, 2) := by decide +kernel
theorem dX4_bringPost_65 : decode cX4_bringPost 65 = .ok (.iaload, 1) := by decide +kernel
theorem dX4_bringPost_66 : decode cX4_bringPost 66 = .ok (.invokevirtual 134, 3) := by decide +kernel
theorem dX4_bringPost_69 : decode cX4_bringPost 69 = .ok (.iload 5, 2) := by decide +kernel
theorem dX4_bringPost_71 : decode cX4_bringPost 71 = .ok (.bipush 24, 2) := by decide +kernel
theorem dX4_bringPost_73 : decode cX4_bringPost 73 = .ok (.if_icmp .ge 26, 3) := by decide +kernel
theorem dX4_bringPost_76 : decode cX4_bringPost 76 = .ok (.aload_n 2, 1) := by decide +kernel
theorem dX4_bringPost_77 : decode cX4_bringPost 77 = .ok (.getfield 137, 3) := by decide +kernel
theorem dX4_bringPost_80 : decode cX4_bringPost 80 = .ok (.iload 5, 2) := by decide +kernel
theorem dX4_bringPost_82 : decode cX4_bringPost 82 = .ok (.bipush 24, 2) := by decide +kernel
theorem dX4_bringPost_84 : decode cX4_bringPost 84 = .ok (.iadd, 1) := by decide +kernel
theorem dX4_bringPost_85 : decode cX4_bringPost 85 = .ok (.iaload, 1) := by decide +kernel
theorem dX4_bringPost_86 : decode cX4_bringPost 86 = .ok (.ifCond .le 13, 3) := by decide +kernel
theorem dX4_bringPost_89 : decode cX4_bringPost 89 = .ok (.aload_n 0, 1) := by decide +kernel
theorem dX4_bringPost_90 : decode cX4_bringPost 90 = .ok (.aload_n 1, 1) := by decide +kernel
theorem dX4_bringPost_91 : decode cX4_bringPost 91 = .ok (.iload 5, 2) := by decide +kernel
theorem dX4_bringPost_93 : decode cX4_bringPost 93 = .ok (.bipush 24, 2) := by decide +kernel
theorem dX4_bringPost_95 : decode cX4_bringPost 95 = .ok (.iadd, 1) := by decide +kernel
theorem dX4_bringPost_96 : decode cX4_bringPost 96 = .ok (.invokevirtual 125, 3) := by decide +kernel
theorem dX4_bringPost_99 : decode cX4_bringPost 99 = .ok (.aload_n 0, 1) := by decide +kernel
theorem dX4_bringPost_100 : decode cX4_bringPost 100 = .ok (.getfield 39, 3) := by decide +kernel
theorem dX4_bringPost_103 : decode cX4_bringPost 103 = .ok (.iload_n 3, 1) := by decide +kernel
theorem dX4_bringPost_104 : decode cX4_bringPost 104 = .ok (.iaload, 1) := by decide +kernel
theorem dX4_bringPost_105 : decode cX4_bringPost 105 = .ok (.istore_n 3, 1) := by decide +kernel
theorem dX4_bringPost_106 : decode cX4_bringPost 106 = .ok (.iinc 4 1, 3) := by decide +kernel
theorem dX4_bringPost_109 : decode cX4_bringPost 109 = .ok (.goto (-91), 3) := by decide +kernel
theorem dX4_bringPost_112 : decode cX4_bringPost 112 = .ok (.return_, 1) := by decide +kernel
theorem dX4_lay_0 : decode cX4_lay 0 = .ok (.aload_n 1, 1) := by decide +kernel
theorem dX4_lay_1 : decode cX4_lay 1 = .ok (.getfield 60, 3) := by decide +kernel
theorem dX4_lay_4 : decode cX4_lay 4 = .ok (.getfield 131, 3) := by decide +kernel
theorem dX4_lay_7 : decode cX4_lay 7 = .ok (.iload_n 2, 1) := by decide +kernel
theorem dX4_lay_8 : decode cX4_lay 8 = .ok (.iaload, 1) := by decide +kernel
theorem dX4_lay_9 : decode cX4_lay 9 = .ok (.istore_n 3, 1) := by decide +kernel
theorem dX4_lay_10 : decode cX4_lay 10 = .ok (.aload_n 0, 1) := by decide +kernel
theorem dX4_lay_11 : decode cX4_lay 11 = .ok (.getfield 9, 3) := by decide +kernel
theorem dX4_lay_14 : decode cX4_lay 14 = .ok (.iload_n 2, 1) := by decide +kernel
theorem dX4_lay_15 : decode cX4_lay 15 = .ok (.aload_n 0, 1) := by decide +kernel
theorem dX4_lay_16 : decode cX4_lay 16 = .ok (.getfield 49, 3) := by decide +kernel
theorem dX4_lay_19 : decode cX4_lay 19 = .ok (.iastore, 1) := by decide +kernel
theorem dX4_lay_20 : decode cX4_lay 20 = .ok (.aload_n 0, 1) := by decide +kernel
theorem dX4_lay_21 : decode cX4_lay 21 = .ok (.getfield 18, 3) := by decide +kernel
theorem dX4_lay_24 : decode cX4_lay 24 = .ok (.iload_n 2, 1) := by decide +kernel
theorem dX4_lay_25 : decode cX4_lay 25 = .ok (.aload_n 1, 1) := by decide +kernel
theorem dX4_lay_26 : decode cX4_lay 26 = .ok (.getfield 60, 3) := by decide +kernel
theorem dX4_lay_29 : decode cX4_lay 29 = .ok (.iload_n 2, 1) := by decide +kernel
theorem dX4_lay_30 : decode cX4_lay 30 = .ok (.invokevirtual 140, 3) := by decide +kernel
theorem dX4_lay_33 : decode cX4_lay 33 = .ok (.iastore, 1) := by decide +kernel
theorem dX4_lay_34 : decode cX4_lay 34 = .ok (.aload_n 0, 1) := by decide +kernel
theorem dX4_lay_35 : decode cX4_lay 35 = .ok (.getfield 21, 3) := by decide +kernel
theorem dX4_lay_38 : decode cX4_lay 38 = .ok (.iload_n 2, 1) := by decide +kernel
theorem dX4_lay_39 : decode cX4_lay 39 = .ok (.aload_n 1, 1) := by decide +kernel
theorem dX4_lay_40 : decode cX4_lay 40 = .ok (.iload_n 2, 1) := by decide +kernel
theorem dX4_lay_41 : decode cX4_lay 41 = .ok (.aload_n 0, 1) := by decide +kernel
theorem dX4_lay_42 : decode cX4_lay 42 = .ok (.getfield 49, 3) := by decide +kernel
theorem dX4_lay_45 : decode cX4_lay 45 = .ok (.invokevirtual 144, 3) := by decide +kernel
theorem dX4_lay_48 : decode cX4_lay 48 = .ok (.iastore, 1) := by decide +kernel
theorem dX4_lay_49 : decode cX4_lay 49 = .ok (.aload_n 0, 1) := by decide +kernel
theorem dX4_lay_50 : decode cX4_lay 50 = .ok (.iload_n 3, 1) := by decide +kernel
theorem dX4_lay_51 : decode cX4_lay 51 = .ok (.aload_n 1, 1) := by decide +kernel
theorem dX4_lay_52 : decode cX4_lay 52 = .ok (.getfield 60, 3) := by decide +kernel
theorem dX4_lay_55 : decode cX4_lay 55 = .ok (.getfield 128, 3) := by decide +kernel
theorem dX4_lay_58 : decode cX4_lay 58 = .ok (.iload_n 2, 1) := by decide +kernel
theorem dX4_lay_59 : decode cX4_lay 59 = .ok (.iaload, 1) := by decide +kernel
theorem dX4_lay_60 : decode cX4_lay 60 = .ok (.invokevirtual 134, 3) := by decide +kernel
theorem dX4_lay_63 : decode cX4_lay 63 = .ok (.aload_n 0, 1) := by decide +kernel
theorem dX4_lay_64 : decode cX4_lay 64 = .ok (.getfield 33, 3) := by decide +kernel
theorem dX4_lay_67 : decode cX4_lay 67 = .ok (.iload_n 3, 1) := by decide +kernel
theorem dX4_lay_68 : decode cX4_lay 68 = .ok (.iaload, 1) := by decide +kernel
theorem dX4_lay_69 : decode cX4_lay 69 = .ok (.bipush 49, 2) := by decide +kernel
theorem dX4_lay_71 : decode cX4_lay 71 = .ok (.if_icmp .lt 4, 3) := by decide +kernel
theorem dX4_lay_74 : decode cX4_lay 74 = .ok (.return_, 1) := by decide +kernel
theorem dX4_lay_75 : decode cX4_lay 75 = .ok (.iload_n 3, 1) := by decide +kernel
theorem dX4_lay_76 : decode cX4_lay 76 = .ok (.bipush 49, 2) := by decide +kernel
theorem dX4_lay_78 : decode cX4_lay 78 = .ok (.imul, 1) := by decide +kernel
theorem dX4_lay_79 : decode cX4_lay 79 = .ok (.istore 4, 2) := by decide +kernel
theorem dX4_lay_81 : decode cX4_lay 81 = .ok (.iload 4, 2) := by decide +kernel
theorem dX4_lay_83 : decode cX4_lay 83 = .ok (.aload_n 0, 1) := by decide +kernel
theorem dX4_lay_84 : decode cX4_lay 84 = .ok (.getfield 33, 3) := by decide +kernel
theorem dX4_lay_87 : decode cX4_lay 87 = .ok (.iload_n 3, 1) := by decide +kernel
theorem dX4_lay_88 : decode cX4_lay 88 = .ok (.iaload, 1) := by decide +kernel
theorem dX4_lay_89 : decode cX4_lay 89 = .ok (.iadd, 1) := by decide +kernel
theorem dX4_lay_90 : decode cX4_lay 90 = .ok (.istore 5, 2) := by decide +kernel
theorem dX4_lay_92 : decode cX4_lay 92 = .ok (.iload 5, 2) := by decide +kernel
theorem dX4_lay_94 : decode cX4_lay 94 = .ok (.iload 4, 2) := by decide +kernel
theorem dX4_lay_96 : decode cX4_lay 96 = .ok (.if_icmp .le 48, 3) := by decide +kernel
theorem dX4_lay_99 : decode cX4_lay 99 = .ok (.aload_n 0, 1) := by decide +kernel
theorem dX4_lay_100 : decode cX4_lay 100 = .ok (.getfield 21, 3) := by decide +kernel
theorem dX4_lay_103 : decode cX4_lay 103 = .ok (.aload_n 0, 1) := by decide +kernel
theorem dX4_lay_104 : decode cX4_lay 104 = .ok (.getfield 30, 3) := by decide +kernel
theorem dX4_lay_107 : decode cX4_lay 107 = .ok (.iload 5, 2) := by decide +kernel
theorem dX4_lay_109 : decode cX4_lay 109 = .ok (.iconst 1, 1) := by decide +kernel
theorem dX4_lay_110 : decode cX4_lay 110 = .ok (.isub, 1) := by decide +kernel
theorem dX4_lay_111 : decode cX4_lay 111 = .ok (.iaload, 1) := by decide +kernel
theorem dX4_lay_112 : decode cX4_lay 112 = .ok (.iaload, 1) := by decide +kernel
theorem dX4_lay_113 : decode cX4_lay 113 = .ok (.aload_n 0, 1) := by decide +kernel
theorem dX4_lay_114 : decode cX4_lay 114 = .ok (.getfield 21, 3) := by decide +kernel
theorem dX4_lay_117 : decode cX4_lay 117 = .ok (.iload_n 2, 1) := by decide +kernel
theorem dX4_lay_118 : decode cX4_lay 118 = .ok (.iaload, 1) := by decide +kernel
theorem dX4_lay_119 : decode cX4_lay 119 = .ok (.if_icmp .ge 25, 3) := by decide +kernel
theorem dX4_lay_122 : decode cX4_lay 122 = .ok (.aload_n 0, 1) := by decide +kernel
theorem dX4_lay_123 : decode cX4_lay 123 = .ok (.getfield 30, 3) := by decide +kernel
theorem dX4_lay_126 : decode cX4_lay 126 = .ok (.iload 5, 2) := by decide +kernel
theorem dX4_lay_128 : decode cX4_lay 128 = .ok (.aload_n 0, 1) := by decide +kernel
theorem dX4_lay_129 : decode cX4_lay 129 = .ok (.getfield 30, 3) := by decide +kernel
theorem dX4_lay_132 : decode cX4_lay 132 = .ok (.iload 5, 2) := by decide +kernel
theorem dX4_lay_134 : decode cX4_lay 134 = .ok (.iconst 1, 1) := by decide +kernel
theorem dX4_lay_135 : decode cX4_lay 135 = .ok (.isub, 1) := by decide +kernel
theorem dX4_lay_136 : decode cX4_lay 136 = .ok (.iaload, 1) := by decide +kernel
theorem dX4_lay_137 : decode cX4_lay 137 = .ok (.iastore, 1) := by decide +kernel
theorem dX4_lay_138 : decode cX4_lay 138 = .ok (.iinc 5 (-1), 3) := by decide +kernel
theorem dX4_lay_141 : decode cX4_lay 141 = .ok (.goto (-49), 3) := by decide +kernel
theorem dX4_lay_144 : decode cX4_lay 144 = .ok (.aload_n 0, 1) := by decide +kernel
theorem dX4_lay_145 : decode cX4_lay 145 = .ok (.getfield 30, 3) := by decide +kernel
theorem dX4_lay_148 : decode cX4_lay 148 = .ok (.iload 5, 2) := by decide +kernel
theorem dX4_lay_150 : decode cX4_lay 150 = .ok (.iload_n 2, 1) := by decide +kernel
theorem dX4_lay_151 : decode cX4_lay 151 = .ok (.iastore, 1) := by decide +kernel
theorem dX4_lay_152 : decode cX4_lay 152 = .ok (.aload_n 0, 1) := by decide +kernel
theorem dX4_lay_153 : decode cX4_lay 153 = .ok (.getfield 33, 3) := by decide +kernel
theorem dX4_lay_156 : decode cX4_lay 156 = .ok (.iload_n 3, 1) := by decide +kernel
theorem dX4_lay_157 : decode cX4_lay 157 = .ok (.dup2, 1) := by decide +kernel
theorem dX4_lay_158 : decode cX4_lay 158 = .ok (.iaload, 1) := by decide +kernel
theorem dX4_lay_159 : decode cX4_lay 159 = .ok (.iconst 1, 1) := by decide +kernel
theorem dX4_lay_160 : decode cX4_lay 160 = .ok (.iadd, 1) := by decide +kernel
theorem dX4_lay_161 : decode cX4_lay 161 = .ok (.iastore, 1) := by decide +kernel
theorem dX4_lay_162 : decode cX4_lay 162 = .ok (.return_, 1) := by decide +kernel
theorem dX4_hear_0 : decode cX4_hear 0 = .ok (.aload_n 0, 1) := by decide +kernel
theorem dX4_hear_1 : decode cX4_hear 1 = .ok (.getfield 24, 3) := by decide +kernel
theorem dX4_hear_4 : decode cX4_hear 4 = .ok (.iload_n 1, 1) := by decide +kernel
theorem dX4_hear_5 : decode cX4_hear 5 = .ok (.bipush 8, 2) := by decide +kernel
theorem dX4_hear_7 : decode cX4_hear 7 = .ok (.imul, 1) := by decide +kernel
theorem dX4_hear_8 : decode cX4_hear 8 = .ok (.iload_n 2, 1) := by decide +kernel
theorem dX4_hear_9 : decode cX4_hear 9 = .ok (.iadd, 1) := by decide +kernel
theorem dX4_hear_10 : decode cX4_hear 10 = .ok (.iaload, 1) := by decide +kernel
theorem dX4_hear_11 : decode cX4_hear 11 = .ok (.iconst (-1), 1) := by decide +kernel
theorem dX4_hear_12 : decode cX4_hear 12 = .ok (.if_icmp .ne 18, 3) := by decide +kernel
theorem dX4_hear_15 : decode cX4_hear 15 = .ok (.aload_n 0, 1) := by decide +kernel
theorem dX4_hear_16 : decode cX4_hear 16 = .ok (.getfield 24, 3) := by decide +kernel
theorem dX4_hear_19 : decode cX4_hear 19 = .ok (.iload_n 1, 1) := by decide +kernel
theorem dX4_hear_20 : decode cX4_hear 20 = .ok (.bipush 8, 2) := by decide +kernel
theorem dX4_hear_22 : decode cX4_hear 22 = .ok (.imul, 1) := by decide +kernel
theorem dX4_hear_23 : decode cX4_hear 23 = .ok (.iload_n 2, 1) := by decide +kernel
theorem dX4_hear_24 : decode cX4_hear 24 = .ok (.iadd, 1) := by decide +kernel
theorem dX4_hear_25 : decode cX4_hear 25 = .ok (.aload_n 0, 1) := by decide +kernel
theorem dX4_hear_26 : decode cX4_hear 26 = .ok (.getfield 49, 3) := by decide +kernel
theorem dX4_hear_29 : decode cX4_hear 29 = .ok (.iastore, 1) := by decide +kernel
theorem dX4_hear_30 : decode cX4_hear 30 = .ok (.return_, 1) := by decide +kernel
theorem dX4_seeVisitor_0 : decode cX4_seeVisitor 0 = .ok (.aload_n 1, 1) := by decide +kernel
theorem dX4_seeVisitor_1 : decode cX4_seeVisitor 1 = .ok (.getfield 131, 3) := by decide +kernel
theorem dX4_seeVisitor_4 : decode cX4_seeVisitor 4 = .ok (.iload_n 2, 1) := by decide +kernel
theorem dX4_seeVisitor_5 : decode cX4_seeVisitor 5 = .ok (.iaload, 1) := by decide +kernel
theorem dX4_seeVisitor_6 : decode cX4_seeVisitor 6 = .ok (.istore_n 3, 1) := by decide +kernel
theorem dX4_seeVisitor_7 : decode cX4_seeVisitor 7 = .ok (.iconst 0, 1) := by decide +kernel
theorem dX4_seeVisitor_8 : decode cX4_seeVisitor 8 = .ok (.istore 4, 2) := by decide +kernel
theorem dX4_seeVisitor_10 : decode cX4_seeVisitor 10 = .ok (.iload 4, 2) := by decide +kernel
theorem dX4_seeVisitor_12 : decode cX4_seeVisitor 12 = .ok (.aload_n 0, 1) := by decide +kernel
theorem dX4_seeVisitor_13 : decode cX4_seeVisitor 13 = .ok (.getfield 33, 3) := by decide +kernel
theorem dX4_seeVisitor_16 : decode cX4_seeVisitor 16 = .ok (.iload_n 3, 1) := by decide +kernel
theorem dX4_seeVisitor_17 : decode cX4_seeVisitor 17 = .ok (.iaload, 1) := by decide +kernel
theorem dX4_seeVisitor_18 : decode cX4_seeVisitor 18 = .ok (.if_icmp .ge 44, 3) := by decide +kernel
theorem dX4_seeVisitor_21 : decode cX4_seeVisitor 21 = .ok (.aload_n 0, 1) := by decide +kernel
theorem dX4_seeVisitor_22 : decode cX4_seeVisitor 22 = .ok (.getfield 30, 3) := by decide +kernel
theorem dX4_seeVisitor_25 : decode cX4_seeVisitor 25 = .ok (.iload_n 3, 1) := by decide +kernel
theorem dX4_seeVisitor_26 : decode cX4_seeVisitor 26 = .ok (.bipush 49, 2) := by decide +kernel
theorem dX4_seeVisitor_28 : decode cX4_seeVisitor 28 = .ok (.imul, 1) := by decide +kernel
theorem dX4_seeVisitor_29 : decode cX4_seeVisitor 29 = .ok (.iload 4, 2) := by decide +kernel
theorem dX4_seeVisitor_31 : decode cX4_seeVisitor 31 = .ok (.iadd, 1) := by decide +kernel
theorem dX4_seeVisitor_32 : decode cX4_seeVisitor 32 = .ok (.iaload, 1) := by decide +kernel
theorem dX4_seeVisitor_33 : decode cX4_seeVisitor 33 = .ok (.iload_n 2, 1) := by decide +kernel
theorem dX4_seeVisitor_34 : decode cX4_seeVisitor 34 = .ok (.if_icmp .ne 22, 3) := by decide +kernel
theorem dX4_seeVisitor_37 : decode cX4_seeVisitor 37 = .ok (.aload_n 0, 1) := by decide +kernel
theorem dX4_seeVisitor_38 : decode cX4_seeVisitor 38 = .ok (.iload_n 3, 1) := by decide +kernel
theorem dX4_seeVisitor_39 : decode cX4_seeVisitor 39 = .ok (.iload 4, 2) := by decide +kernel
theorem dX4_seeVisitor_41 : decode cX4_seeVisitor 41 = .ok (.invokevirtual 148, 3) := by decide +kernel
theorem dX4_seeVisitor_44 : decode cX4_seeVisitor 44 = .ok (.aload_n 0, 1) := by decide +kernel
theorem dX4_seeVisitor_45 : decode cX4_seeVisitor 45 = .ok (.aload_n 1, 1) := by decide +kernel
theorem dX4_seeVisitor_46 : decode cX4_seeVisitor 46 = .ok (.getfield 128, 3) := by decide +kernel
theorem dX4_seeVisitor_49 : decode cX4_seeVisitor 49 = .ok (.iload_n 2, 1) := by decide +kernel
theorem dX4_seeVisitor_50 : decode cX4_seeVisitor 50 = .ok (.iaload, 1) := by decide +kernel
theorem dX4_seeVisitor_51 : decode cX4_seeVisitor 51 = .ok (.iload_n 3, 1) := by decide +kernel
theorem dX4_seeVisitor_52 : decode cX4_seeVisitor 52 = .ok (.invokevirtual 134, 3) := by decide +kernel
theorem dX4_seeVisitor_55 : decode cX4_seeVisitor 55 = .ok (.return_, 1) := by decide +kernel
theorem dX4_seeVisitor_56 : decode cX4_seeVisitor 56 = .ok (.iinc 4 1, 3) := by decide +kernel
theorem dX4_seeVisitor_59 : decode cX4_seeVisitor 59 = .ok (.goto (-49), 3) := by decide +kernel
theorem dX4_seeVisitor_62 : decode cX4_seeVisitor 62 = .ok (.return_, 1) := by decide +kernel
theorem dX4_workOneDay_0 : decode cX4_workOneDay 0 = .ok (.aload_n 1, 1) := by decide +kernel
theorem dX4_workOneDay_1 : decode cX4_workOneDay 1 = .ok (.getfield 60, 3) := by decide +kernel
theorem dX4_workOneDay_4 : decode cX4_workOneDay 4 = .ok (.astore_n 3, 1) := by decide +kernel
theorem dX4_workOneDay_5 : decode cX4_workOneDay 5 = .ok (.aload_n 0, 1) := by decide +kernel
theorem dX4_workOneDay_6 : decode cX4_workOneDay 6 = .ok (.getfield 27, 3) := by decide +kernel
theorem dX4_workOneDay_9 : decode cX4_workOneDay 9 = .ok (.iload_n 2, 1) := by decide +kernel
theorem dX4_workOneDay_10 : decode cX4_workOneDay 10 = .ok (.iconst (-1), 1) := by decide +kernel
theorem dX4_workOneDay_11 : decode cX4_workOneDay 11 = .ok (.iastore, 1) := by decide +kernel
theorem dX4_workOneDay_12 : decode cX4_workOneDay 12 = .ok (.aload_n 0, 1) := by decide +kernel
theorem dX4_workOneDay_13 : decode cX4_workOneDay 13 = .ok (.aload_n 3, 1) := by decide +kernel
theorem dX4_workOneDay_14 : decode cX4_workOneDay 14 = .ok (.iload_n 2, 1) := by decide +kernel
theorem dX4_workOneDay_15 : decode cX4_workOneDay 15 = .ok (.aload_n 1, 1) := by decide +kernel
theorem dX4_workOneDay_16 : decode cX4_workOneDay 16 = .ok (.iload_n 2, 1) := by decide +kernel
theorem dX4_workOneDay_17 : decode cX4_workOneDay 17 = .ok (.aload_n 0, 1) := by decide +kernel
theorem dX4_workOneDay_18 : decode cX4_workOneDay 18 = .ok (.getfield 49, 3) := by decide +kernel
theorem dX4_workOneDay_21 : decode cX4_workOneDay 21 = .ok (.invokevirtual 151, 3) := by decide +kernel
theorem dX4_workOneDay_24 : decode cX4_workOneDay 24 = .ok (.iload_n 2, 1) := by decide +kernel
theorem dX4_workOneDay_25 : decode cX4_workOneDay 25 = .ok (.invokevirtual 154, 3) := by decide +kernel
theorem dX4_workOneDay_28 : decode cX4_workOneDay 28 = .ok (.istore 4, 2) := by decide +kernel
theorem dX4_workOneDay_30 : decode cX4_workOneDay 30 = .ok (.aload_n 3, 1) := by decide +kernel
theorem dX4_workOneDay_31 : decode cX4_workOneDay 31 = .ok (.getfield 158, 3) := by decide +kernel
theorem dX4_workOneDay_34 : decode cX4_workOneDay 34 = .ok (.iload_n 2, 1) := by decide +kernel
theorem dX4_workOneDay_35 : decode cX4_workOneDay 35 = .ok (.iaload, 1) := by decide +kernel
theorem dX4_workOneDay_36 : decode cX4_workOneDay 36 = .ok (.iconst 4, 1) := by decide +kernel
theorem dX4_workOneDay_37 : decode cX4_workOneDay 37 = .ok (.if_icmp .ne 28, 3) := by decide +kernel
theorem dX4_workOneDay_40 : decode cX4_workOneDay 40 = .ok (.aload_n 0, 1) := by decide +kernel
theorem dX4_workOneDay_41 : decode cX4_workOneDay 41 = .ok (.getfield 33, 3) := by decide +kernel
theorem dX4_workOneDay_44 : decode cX4_workOneDay 44 = .ok (.iload_n 2, 1) := by decide +kernel
theorem dX4_workOneDay_45 : decode cX4_workOneDay 45 = .ok (.iaload, 1) := by decide +kernel
theorem dX4_workOneDay_46 : decode cX4_workOneDay 46 = .ok (.ifCond .ne 19, 3) := by decide +kernel
theorem dX4_workOneDay_49 : decode cX4_workOneDay 49 = .ok (.aload_n 0, 1) := by decide +kernel
theorem dX4_workOneDay_50 : decode cX4_workOneDay 50 = .ok (.aload_n 3, 1) := by decide +kernel
theorem dX4_workOneDay_51 : decode cX4_workOneDay 51 = .ok (.aload_n 3, 1) := by decide +kernel
theorem dX4_workOneDay_52 : decode cX4_workOneDay 52 = .ok (.getfield 161, 3) := by decide +kernel
theorem dX4_workOneDay_55 : decode cX4_workOneDay 55 = .ok (.iload_n 2, 1) := by decide +kernel
theorem dX4_workOneDay_56 : decode cX4_workOneDay 56 = .ok (.iaload, 1) := by decide +kernel
theorem dX4_workOneDay_57 : decode cX4_workOneDay 57 = .ok (.iload 4, 2) := by decide +kernel
theorem dX4_workOneDay_59 : decode cX4_workOneDay 59 = .ok (.iload_n 2, 1) := by decide +kernel
theorem dX4_workOneDay_60 : decode cX4_workOneDay 60 = .ok (.invokevirtual 154, 3) := by decide +kernel
theorem dX4_workOneDay_63 : decode cX4_workOneDay 63 = .ok (.istore 4, 2) := by decide +kernel
theorem dX4_workOneDay_65 : decode cX4_workOneDay 65 = .ok (.aload_n 0, 1) := by decide +kernel
theorem dX4_workOneDay_66 : decode cX4_workOneDay 66 = .ok (.getfield 56, 3) := by decide +kernel
theorem dX4_workOneDay_69 : decode cX4_workOneDay 69 = .ok (.ifnull 45, 3) := by decide +kernel
theorem dX4_workOneDay_72 : decode cX4_workOneDay 72 = .ok (.aload_n 0, 1) := by decide +kernel
theorem dX4_workOneDay_73 : decode cX4_workOneDay 73 = .ok (.getfield 56, 3) := by decide +kernel
theorem dX4_workOneDay_76 : decode cX4_workOneDay 76 = .ok (.getfield 164, 3) := by decide +kernel
theorem dX4_workOneDay_79 : decode cX4_workOneDay 79 = .ok (.aload_n 0, 1) := by decide +kernel
theorem dX4_workOneDay_80 : decode cX4_workOneDay 80 = .ok (.getfield 49, 3) := by decide +kernel
theorem dX4_workOneDay_83 : decode cX4_workOneDay 83 = .ok (.bipush 8, 2) := by decide +kernel
theorem dX4_workOneDay_85 : decode cX4_workOneDay 85 = .ok (.imul, 1) := by decide +kernel
theorem dX4_workOneDay_86 : decode cX4_workOneDay 86 = .ok (.iload_n 2, 1) := by decide +kernel
theorem dX4_workOneDay_87 : decode cX4_workOneDay 87 = .ok (.iadd, 1) := by decide +kernel
theorem dX4_workOneDay_88 : decode cX4_workOneDay 88 = .ok (.iload 4, 2) := by decide +kernel
theorem dX4_workOneDay_90 : decode cX4_workOneDay 90 = .ok (.iastore, 1) := by decide +kernel
theorem dX4_workOneDay_91 : decode cX4_workOneDay 91 = .ok (.aload_n 0, 1) := by decide +kernel
theorem dX4_workOneDay_92 : decode cX4_workOneDay 92 = .ok (.getfield 56, 3) := by decide +kernel
theorem dX4_workOneDay_95 : decode cX4_workOneDay 95 = .ok (.getfield 169, 3) := by decide +kernel
theorem dX4_workOneDay_98 : decode cX4_workOneDay 98 = .ok (.aload_n 0, 1) := by decide +kernel
theorem dX4_workOneDay_99 : decode cX4_workOneDay 99 = .ok (.getfield 49, 3) := by decide +kernel
theorem dX4_workOneDay_102 : decode cX4_workOneDay 102 = .ok (.bipush 8, 2) := by decide +kernel
theorem dX4_workOneDay_104 : decode cX4_workOneDay 104 = .ok (.imul, 1) := by decide +kernel
theorem dX4_workOneDay_105 : decode cX4_workOneDay 105 = .ok (.iload_n 2, 1) := by decide +kernel
theorem dX4_workOneDay_106 : decode cX4_workOneDay 106 = .ok (.iadd, 1) := by decide +kernel
theorem dX4_workOneDay_107 : decode cX4_workOneDay 107 = .ok (.aload_n 0, 1) := by decide +kernel
theorem dX4_workOneDay_108 : decode cX4_workOneDay 108 = .ok (.getfield 27, 3) := by decide +kernel
theorem dX4_workOneDay_111 : decode cX4_workOneDay 111 = .ok (.iload_n 2, 1) := by decide +kernel
theorem dX4_workOneDay_112 : decode cX4_workOneDay 112 = .ok (.iaload, 1) := by decide +kernel
theorem dX4_workOneDay_113 : decode cX4_workOneDay 113 = .ok (.iastore, 1) := by decide +kernel
theorem dX4_workOneDay_114 : decode cX4_workOneDay 114 = .ok (.return_, 1) := by decide +kernel
theorem dX4_workOn_0 : decode cX4_workOn 0 = .ok (.iload_n 3, 1) := by decide +kernel
theorem dX4_workOn_1 : decode cX4_workOn 1 = .ok (.istore 5, 2) := by decide +kernel
theorem dX4_workOn_3 : decode cX4_workOn 3 = .ok (.iconst 0, 1) := by decide +kernel
theorem dX4_workOn_4 : decode cX4_workOn 4 = .ok (.istore 6, 2) := by decide +kernel
theorem dX4_workOn_6 : decode cX4_workOn 6 = .ok (.iload 6, 2) := by decide +kernel
theorem dX4_workOn_8 : decode cX4_workOn 8 = .ok (.bipush 49, 2) := by decide +kernel
theorem dX4_workOn_10 : decode cX4_workOn 10 = .ok (.if_icmp .ge 209, 3) := by decide +kernel
theorem dX4_workOn_13 : decode cX4_workOn 13 = .ok (.iload 5, 2) := by decide +kernel
theorem dX4_workOn_15 : decode cX4_workOn 15 = .ok (.ifCond .le 204, 3) := by decide +kernel
theorem dX4_workOn_18 : decode cX4_workOn 18 = .ok (.aload_n 0, 1) := by decide +kernel
theorem dX4_workOn_19 : decode cX4_workOn 19 = .ok (.getfield 33, 3) := by decide +kernel
theorem dX4_workOn_22 : decode cX4_workOn 22 = .ok (.iload_n 2, 1) := by decide +kernel
theorem dX4_workOn_23 : decode cX4_workOn 23 = .ok (.iaload, 1) := by decide +kernel
theorem dX4_workOn_24 : decode cX4_workOn 24 = .ok (.ifCond .le 195, 3) := by decide +kernel
theorem dX4_workOn_27 : decode cX4_workOn 27 = .ok (.aload_n 1, 1) := by decide +kernel
theorem dX4_workOn_28 : decode cX4_workOn 28 = .ok (.getfield 172, 3) := by decide +kernel
theorem dX4_workOn_31 : decode cX4_workOn 31 = .ok (.iconst 3, 1) := by decide +kernel
theorem dX4_workOn_32 : decode cX4_workOn 32 = .ok (.if_icmp .ne 25, 3) := by decide +kernel
theorem dX4_workOn_35 : decode cX4_workOn 35 = .ok (.aload_n 0, 1) := by decide +kernel
theorem dX4_workOn_36 : decode cX4_workOn 36 = .ok (.getfield 33, 3) := by decide +kernel
theorem dX4_workOn_39 : decode cX4_workOn 39 = .ok (.iload_n 2, 1) := by decide +kernel
theorem dX4_workOn_40 : decode cX4_workOn 40 = .ok (.iaload, 1) := by decide +kernel
theorem dX4_workOn_41 : decode cX4_workOn 41 = .ok (.iconst 1, 1) := by decide +kernel
theorem dX4_workOn_42 : decode cX4_workOn 42 = .ok (.isub, 1) := by decide +kernel
theorem dX4_workOn_43 : decode cX4_workOn 43 = .ok (.aload_n 0, 1) := by decide +kernel
theorem dX4_workOn_44 : decode cX4_workOn 44 = .ok (.aload_n 0, 1) := by decide +kernel
theorem dX4_workOn_45 : decode cX4_workOn 45 = .ok (.getfield 33, 3) := by decide +kernel
theorem dX4_workOn_48 : decode cX4_workOn 48 = .ok (.iload_n 2, 1) := by decide +kernel
theorem dX4_workOn_49 : decode cX4_workOn 49 = .ok (.iaload, 1) := by decide +kernel
theorem dX4_workOn_50 : decode cX4_workOn 50 = .ok (.invokevirtual 175, 3) := by decide +kernel
theorem dX4_workOn_53 : decode cX4_workOn 53 = .ok (.isub, 1) := by decide +kernel
theorem dX4_workOn_54 : decode cX4_workOn 54 = .ok (.goto 11, 3) := by decide +kernel
theorem dX4_workOn_57 : decode cX4_workOn 57 = .ok (.aload_n 0, 1) := by decide +kernel
theorem dX4_workOn_58 : decode cX4_workOn 58 = .ok (.getfield 33, 3) := by decide +kernel
theorem dX4_workOn_61 : decode cX4_workOn 61 = .ok (.iload_n 2, 1) := by decide +kernel
theorem dX4_workOn_62 : decode cX4_workOn 62 = .ok (.iaload, 1) := by decide +kernel
theorem dX4_workOn_63 : decode cX4_workOn 63 = .ok (.iconst 1, 1) := by decide +kernel
theorem dX4_workOn_64 : decode cX4_workOn 64 = .ok (.isub, 1) := by decide +kernel
theorem dX4_workOn_65 : decode cX4_workOn 65 = .ok (.istore 7, 2) := by decide +kernel
theorem dX4_workOn_67 : decode cX4_workOn 67 = .ok (.aload_n 0, 1) := by decide +kernel
theorem dX4_workOn_68 : decode cX4_workOn 68 = .ok (.getfield 30, 3) := by decide +kernel
theorem dX4_workOn_71 : decode cX4_workOn 71 = .ok (.iload_n 2, 1) := by decide +kernel
theorem dX4_workOn_72 : decode cX4_workOn 72 = .ok (.bipush 49, 2) := by decide +kernel
theorem dX4_workOn_74 : decode cX4_workOn 74 = .ok (.imul, 1) := by decide +kernel
theorem dX4_workOn_75 : decode cX4_workOn 75 = .ok (.iload 7, 2) := by decide +kernel
theorem dX4_workOn_77 : decode cX4_workOn 77 = .ok (.iadd, 1) := by decide +kernel
theorem dX4_workOn_78 : decode cX4_workOn 78 = .ok (.iaload, 1) := by decide +kernel
theorem dX4_workOn_79 : decode cX4_workOn 79 = .ok (.istore 8, 2) := by decide +kernel
theorem dX4_workOn_81 : decode cX4_workOn 81 = .ok (.aload_n 1, 1) := by decide +kernel
theorem dX4_workOn_82 : decode cX4_workOn 82 = .ok (.getfield 178, 3) := by decide +kernel
theorem dX4_workOn_85 : decode cX4_workOn 85 = .ok (.iload 8, 2) := by decide +kernel
theorem dX4_workOn_87 : decode cX4_workOn 87 = .ok (.iaload, 1) := by decide +kernel
theorem dX4_workOn_88 : decode cX4_workOn 88 = .ok (.istore 9, 2) := by decide +kernel
theorem dX4_workOn_90 : decode cX4_workOn 90 = .ok (.iload 9, 2) := by decide +kernel
theorem dX4_workOn_92 : decode cX4_workOn 92 = .ok (.iconst (-1), 1) := by decide +kernel
theorem dX4_workOn_93 : decode cX4_workOn 93 = .ok (.if_icmp .eq 36, 3) := by decide +kernel
theorem dX4_workOn_96 : decode cX4_workOn 96 = .ok (.aload_n 0, 1) := by decide +kernel
theorem dX4_workOn_97 : decode cX4_workOn 97 = .ok (.getfield 24, 3) := by decide +kernel
theorem dX4_workOn_100 : decode cX4_workOn 100 = .ok (.iload_n 2, 1) := by decide +kernel
theorem dX4_workOn_101 : decode cX4_workOn 101 = .ok (.bipush 8, 2) := by decide +kernel
theorem dX4_workOn_103 : decode cX4_workOn 103 = .ok (.imul, 1) := by decide +kernel
theorem dX4_workOn_104 : decode cX4_workOn 104 = .ok (.iload 9, 2) := by decide +kernel
theorem dX4_workOn_106 : decode cX4_workOn 106 = .ok (.iadd, 1) := by decide +kernel
theorem dX4_workOn_107 : decode cX4_workOn 107 = .ok (.iaload, 1) := by decide +kernel
theorem dX4_workOn_108 : decode cX4_workOn 108 = .ok (.iconst (-1), 1) := by decide +kernel
theorem dX4_workOn_109 : decode cX4_workOn 109 = .ok (.if_icmp .ne 20, 3) := by decide +kernel
theorem dX4_workOn_112 : decode cX4_workOn 112 = .ok (.iload 4, 2) := by decide +kernel
theorem dX4_workOn_114 : decode cX4_workOn 114 = .ok (.iload_n 2, 1) := by decide +kernel
theorem dX4_workOn_115 : decode cX4_workOn 115 = .ok (.if_icmp .ne 11, 3) := by decide +kernel
theorem dX4_workOn_118 : decode cX4_workOn 118 = .ok (.aload_n 0, 1) := by decide +kernel
theorem dX4_workOn_119 : decode cX4_workOn 119 = .ok (.getfield 27, 3) := by decide +kernel
theorem dX4_workOn_122 : decode cX4_workOn 122 = .ok (.iload_n 2, 1) := by decide +kernel
theorem dX4_workOn_123 : decode cX4_workOn 123 = .ok (.iload 9, 2) := by decide +kernel
theorem dX4_workOn_125 : decode cX4_workOn 125 = .ok (.iastore, 1) := by decide +kernel
theorem dX4_workOn_126 : decode cX4_workOn 126 = .ok (.iload 5, 2) := by decide +kernel
theorem dX4_workOn_128 : decode cX4_workOn 128 = .ok (.ireturn, 1) := by decide +kernel
theorem dX4_workOn_129 : decode cX4_workOn 129 = .ok (.iload 5, 2) := by decide +kernel
theorem dX4_workOn_131 : decode cX4_workOn 131 = .ok (.aload_n 0, 1) := by decide +kernel
theorem dX4_workOn_132 : decode cX4_workOn 132 = .ok (.getfield 18, 3) := by decide +kernel
theorem dX4_workOn_135 : decode cX4_workOn 135 = .ok (.iload 8, 2) := by decide +kernel
theorem dX4_workOn_137 : decode cX4_workOn 137 = .ok (.iaload, 1) := by decide +kernel
theorem dX4_workOn_138 : decode cX4_workOn 138 = .ok (.invokestatic 181, 3) := by decide +kernel
theorem dX4_workOn_141 : decode cX4_workOn 141 = .ok (.istore 10, 2) := by decide +kernel
theorem dX4_workOn_143 : decode cX4_workOn 143 = .ok (.iload 5, 2) := by decide +kernel
theorem dX4_workOn_145 : decode cX4_workOn 145 = .ok (.iload 10, 2) := by decide +kernel
theorem dX4_workOn_147 : decode cX4_workOn 147 = .ok (.isub, 1) := by decide +kernel
theorem dX4_workOn_148 : decode cX4_workOn 148 = .ok (.istore 5, 2) := by decide +kernel
theorem dX4_workOn_150 : decode cX4_workOn 150 = .ok (.aload_n 0, 1) := by decide +kernel
theorem dX4_workOn_151 : decode cX4_workOn 151 = .ok (.getfield 18, 3) := by decide +kernel
theorem dX4_workOn_154 : decode cX4_workOn 154 = .ok (.iload 8, 2) := by decide +kernel
theorem dX4_workOn_156 : decode cX4_workOn 156 = .ok (.dup2, 1) := by decide +kernel
theorem dX4_workOn_157 : decode cX4_workOn 157 = .ok (.iaload, 1) := by decide +kernel
theorem dX4_workOn_158 : decode cX4_workOn 158 = .ok (.iload 10, 2) := by decide +kernel
theorem dX4_workOn_160 : decode cX4_workOn 160 = .ok (.isub, 1) := by decide +kernel
theorem dX4_workOn_161 : decode cX4_workOn 161 = .ok (.iastore, 1) := by decide +kernel
theorem dX4_workOn_162 : decode cX4_workOn 162 = .ok (.aload_n 0, 1) := by decide +kernel
theorem dX4_workOn_163 : decode cX4_workOn 163 = .ok (.getfield 18, 3) := by decide +kernel
theorem dX4_workOn_166 : decode cX4_workOn 166 = .ok (.iload 8, 2) := by decide +kernel
theorem dX4_workOn_168 : decode cX4_workOn 168 = .ok (.iaload, 1) := by decide +kernel
theorem dX4_workOn_169 : decode cX4_workOn 169 = .ok (.ifCond .ne 44, 3) := by decide +kernel
theorem dX4_workOn_172 : decode cX4_workOn 172 = .ok (.aload_n 0, 1) := by decide +kernel
theorem dX4_workOn_173 : decode cX4_workOn 173 = .ok (.iload_n 2, 1) := by decide +kernel
theorem dX4_workOn_174 : decode cX4_workOn 174 = .ok (.iload 7, 2) := by decide +kernel
theorem dX4_workOn_176 : decode cX4_workOn 176 = .ok (.invokevirtual 148, 3) := by decide +kernel
theorem dX4_workOn_179 : decode cX4_workOn 179 = .ok (.aload_n 0, 1) := by decide +kernel
theorem dX4_workOn_180 : decode cX4_workOn 180 = .ok (.getfield 49, 3) := by decide +kernel
theorem dX4_workOn_183 : decode cX4_workOn 183 = .ok (.aload_n 1, 1) := by decide +kernel
theorem dX4_workOn_184 : decode cX4_workOn 184 = .ok (.getfield 186, 3) := by decide +kernel
theorem dX4_workOn_187 : decode cX4_workOn 187 = .ok (.iadd, 1) := by decide +kernel
theorem dX4_workOn_188 : decode cX4_workOn 188 = .ok (.aload_n 1, 1) := by decide +kernel
theorem dX4_workOn_189 : decode cX4_workOn 189 = .ok (.getfield 70, 3) := by decide +kernel
theorem dX4_workOn_192 : decode cX4_workOn 192 = .ok (.if_icmp .ge 21, 3) := by decide +kernel
theorem dX4_workOn_195 : decode cX4_workOn 195 = .ok (.aload_n 0, 1) := by decide +kernel
theorem dX4_workOn_196 : decode cX4_workOn 196 = .ok (.bipush 49, 2) := by decide +kernel
theorem dX4_workOn_198 : decode cX4_workOn 198 = .ok (.iload 8, 2) := by decide +kernel
theorem dX4_workOn_200 : decode cX4_workOn 200 = .ok (.iadd, 1) := by decide +kernel
theorem dX4_workOn_201 : decode cX4_workOn 201 = .ok (.aload_n 0, 1) := by decide +kernel
theorem dX4_workOn_202 : decode cX4_workOn 202 = .ok (.getfield 49, 3) := by decide +kernel
theorem dX4_workOn_205 : decode cX4_workOn 205 = .ok (.aload_n 1, 1) := by decide +kernel
theorem dX4_workOn_206 : decode cX4_workOn 206 = .ok (.getfield 186, 3) := by decide +kernel
theorem dX4_workOn_209 : decode cX4_workOn 209 = .ok (.iadd, 1) := by decide +kernel
theorem dX4_workOn_210 : decode cX4_workOn 210 = .ok (.invokevirtual 121, 3) := by decide +kernel
theorem dX4_workOn_213 : decode cX4_workOn 213 = .ok (.iinc 6 1, 3) := by decide +kernel
theorem dX4_workOn_216 : decode cX4_workOn 216 = .ok (.goto (-210), 3) := by decide +kernel
theorem dX4_workOn_219 : decode cX4_workOn 219 = .ok (.iload 5, 2) := by decide +kernel
theorem dX4_workOn_221 : decode cX4_workOn 221 = .ok (.ireturn, 1) := by decide +kernel
theorem dX4_takeAway_0 : decode cX4_takeAway 0 = .ok (.iload_n 1, 1) := by decide +kernel
theorem dX4_takeAway_1 : decode cX4_takeAway 1 = .ok (.bipush 49, 2) := by decide +kernel
theorem dX4_takeAway_3 : decode cX4_takeAway 3 = .ok (.imul, 1) := by decide +kernel
theorem dX4_takeAway_4 : decode cX4_takeAway 4 = .ok (.iload_n 2, 1) := by decide +kernel
theorem dX4_takeAway_5 : decode cX4_takeAway 5 = .ok (.iadd, 1) := by decide +kernel
theorem dX4_takeAway_6 : decode cX4_takeAway 6 = .ok (.istore_n 3, 1) := by decide +kernel
theorem dX4_takeAway_7 : decode cX4_takeAway 7 = .ok (.aload_n 0, 1) := by decide +kernel
theorem dX4_takeAway_8 : decode cX4_takeAway 8 = .ok (.getfield 30, 3) := by decide +kernel
theorem dX4_takeAway_11 : decode cX4_takeAway 11 = .ok (.iload_n 3, 1) := by decide +kernel
theorem dX4_takeAway_12 : decode cX4_takeAway 12 = .ok (.iaload, 1) := by decide +kernel
theorem dX4_takeAway_13 : decode cX4_takeAway 13 = .ok (.istore 4, 2) := by decide +kernel
theorem dX4_takeAway_15 : decode cX4_takeAway 15 = .ok (.aload_n 0, 1) := by decide +kernel
theorem dX4_takeAway_16 : decode cX4_takeAway 16 = .ok (.getfield 33, 3) := by decide +kernel
theorem dX4_takeAway_19 : decode cX4_takeAway 19 = .ok (.iload_n 1, 1) := by decide +kernel
theorem dX4_takeAway_20 : decode cX4_takeAway 20 = .ok (.dup2, 1) := by decide +kernel
theorem dX4_takeAway_21 : decode cX4_takeAway 21 = .ok (.iaload, 1) := by decide +kernel
theorem dX4_takeAway_22 : decode cX4_takeAway 22 = .ok (.iconst 1, 1) := by decide +kernel
theorem dX4_takeAway_23 : decode cX4_takeAway 23 = .ok (.isub, 1) := by decide +kernel
theorem dX4_takeAway_24 : decode cX4_takeAway 24 = .ok (.iastore, 1) := by decide +kernel
theorem dX4_takeAway_25 : decode cX4_takeAway 25 = .ok (.aload_n 0, 1) := by decide +kernel
theorem dX4_takeAway_26 : decode cX4_takeAway 26 = .ok (.getfield 30, 3) := by decide +kernel
theorem dX4_takeAway_29 : decode cX4_takeAway 29 = .ok (.iload_n 3, 1) := by decide +kernel
theorem dX4_takeAway_30 : decode cX4_takeAway 30 = .ok (.iconst 1, 1) := by decide +kernel
theorem dX4_takeAway_31 : decode cX4_takeAway 31 = .ok (.iadd, 1) := by decide +kernel
theorem dX4_takeAway_32 : decode cX4_takeAway 32 = .ok (.aload_n 0, 1) := by decide +kernel
theorem dX4_takeAway_33 : decode cX4_takeAway 33 = .ok (.getfield 30, 3) := by decide +kernel
theorem dX4_takeAway_36 : decode cX4_takeAway 36 = .ok (.iload_n 3, 1) := by decide +kernel
theorem dX4_takeAway_37 : decode cX4_takeAway 37 = .ok (.aload_n 0, 1) := by decide +kernel
theorem dX4_takeAway_38 : decode cX4_takeAway 38 = .ok (.getfield 33, 3) := by decide +kernel
theorem dX4_takeAway_41 : decode cX4_takeAway 41 = .ok (.iload_n 1, 1) := by decide +kernel
theorem dX4_takeAway_42 : decode cX4_takeAway 42 = .ok (.iaload, 1) := by decide +kernel
theorem dX4_takeAway_43 : decode cX4_takeAway 43 = .ok (.iload_n 2, 1) := by decide +kernel
theorem dX4_takeAway_44 : decode cX4_takeAway 44 = .ok (.isub, 1) := by decide +kernel
theorem dX4_takeAway_45 : decode cX4_takeAway 45 = .ok (.invokestatic 189, 3) := by decide +kernel
theorem dX4_takeAway_48 : decode cX4_takeAway 48 = .ok (.aload_n 0, 1) := by decide +kernel
theorem dX4_takeAway_49 : decode cX4_takeAway 49 = .ok (.getfield 18, 3) := by decide +kernel
theorem dX4_takeAway_52 : decode cX4_takeAway 52 = .ok (.iload 4, 2) := by decide +kernel
theorem dX4_takeAway_54 : decode cX4_takeAway 54 = .ok (.iconst 0, 1) := by decide +kernel
theorem dX4_takeAway_55 : decode cX4_takeAway 55 = .ok (.iastore, 1) := by decide +kernel
theorem dX4_takeAway_56 : decode cX4_takeAway 56 = .ok (.aload_n 0, 1) := by decide +kernel
theorem dX4_takeAway_57 : decode cX4_takeAway 57 = .ok (.getfield 15, 3) := by decide +kernel
theorem dX4_takeAway_60 : decode cX4_takeAway 60 = .ok (.iload 4, 2) := by decide +kernel
theorem dX4_takeAway_62 : decode cX4_takeAway 62 = .ok (.aload_n 0, 1) := by decide +kernel
theorem dX4_takeAway_63 : decode cX4_takeAway 63 = .ok (.getfield 49, 3) := by decide +kernel
theorem dX4_takeAway_66 : decode cX4_takeAway 66 = .ok (.iastore, 1) := by decide +kernel
theorem dX4_takeAway_67 : decode cX4_takeAway 67 = .ok (.aload_n 0, 1) := by decide +kernel
theorem dX4_takeAway_68 : decode cX4_takeAway 68 = .ok (.getfield 45, 3) := by decide +kernel
theorem dX4_takeAway_71 : decode cX4_takeAway 71 = .ok (.bipush 49, 2) := by decide +kernel
theorem dX4_takeAway_73 : decode cX4_takeAway 73 = .ok (.if_icmp .ge 24, 3) := by decide +kernel
theorem dX4_takeAway_76 : decode cX4_takeAway 76 = .ok (.aload_n 0, 1) := by decide +kernel
theorem dX4_takeAway_77 : decode cX4_takeAway 77 = .ok (.getfield 42, 3) := by decide +kernel
theorem dX4_takeAway_80 : decode cX4_takeAway 80 = .ok (.aload_n 0, 1) := by decide +kernel
theorem dX4_takeAway_81 : decode cX4_takeAway 81 = .ok (.getfield 45, 3) := by decide +kernel
theorem dX4_takeAway_84 : decode cX4_takeAway 84 = .ok (.iload 4, 2) := by decide +kernel
theorem dX4_takeAway_86 : decode cX4_takeAway 86 = .ok (.iastore, 1) := by decide +kernel
theorem dX4_takeAway_87 : decode cX4_takeAway 87 = .ok (.aload_n 0, 1) := by decide +kernel
theorem dX4_takeAway_88 : decode cX4_takeAway 88 = .ok (.dup, 1) := by decide +kernel
theorem dX4_takeAway_89 : decode cX4_takeAway 89 = .ok (.getfield 45, 3) := by decide +kernel
theorem dX4_takeAway_92 : decode cX4_takeAway 92 = .ok (.iconst 1, 1) := by decide +kernel
theorem dX4_takeAway_93 : decode cX4_takeAway 93 = .ok (.iadd, 1) := by decide +kernel
theorem dX4_takeAway_94 : decode cX4_takeAway 94 = .ok (.putfield 45, 3) := by decide +kernel
theorem dX4_takeAway_97 : decode cX4_takeAway 97 = .ok (.return_, 1) := by decide +kernel
theorem dX4_draw_0 : decode cX4_draw 0 = .ok (.aload_n 0, 1) := by decide +kernel
theorem dX4_draw_1 : decode cX4_draw 1 = .ok (.ldc2_w 195, 3) := by decide +kernel
theorem dX4_draw_4 : decode cX4_draw 4 = .ok (.aload_n 0, 1) := by decide +kernel
theorem dX4_draw_5 : decode cX4_draw 5 = .ok (.getfield 52, 3) := by decide +kernel
theorem dX4_draw_8 : decode cX4_draw 8 = .ok (.lmul, 1) := by decide +kernel
theorem dX4_draw_9 : decode cX4_draw 9 = .ok (.ldc2_w 197, 3) := by decide +kernel
theorem dX4_draw_12 : decode cX4_draw 12 = .ok (.ladd, 1) := by decide +kernel
theorem dX4_draw_13 : decode cX4_draw 13 = .ok (.ldc2_w 199, 3) := by decide +kernel
theorem dX4_draw_16 : decode cX4_draw 16 = .ok (.land, 1) := by decide +kernel
theorem dX4_draw_17 : decode cX4_draw 17 = .ok (.putfield 52, 3) := by decide +kernel
theorem dX4_draw_20 : decode cX4_draw 20 = .ok (.iload_n 1, 1) := by decide +kernel
theorem dX4_draw_21 : decode cX4_draw 21 = .ok (.iconst 1, 1) := by decide +kernel
theorem dX4_draw_22 : decode cX4_draw 22 = .ok (.if_icmp .ge 7, 3) := by decide +kernel
theorem dX4_draw_29 : decode cX4_draw 29 = .ok (.aload_n 0, 1) := by decide +kernel
theorem dX4_draw_30 : decode cX4_draw 30 = .ok (.getfield 52, 3) := by decide +kernel
theorem dX4_draw_33 : decode cX4_draw 33 = .ok (.ldc2_w 201, 3) := by decide +kernel
theorem dX4_draw_36 : decode cX4_draw 36 = .ok (.ldiv, 1) := by decide +kernel
theorem dX4_draw_37 : decode cX4_draw 37 = .ok (.iload_n 1, 1) := by decide +kernel
theorem dX4_draw_38 : decode cX4_draw 38 = .ok (.i2l, 1) := by decide +kernel
theorem dX4_draw_39 : decode cX4_draw 39 = .ok (.lrem, 1) := by decide +kernel
theorem dX4_draw_40 : decode cX4_draw 40 = .ok (.l2i, 1) := by decide +kernel
theorem dX4_draw_41 : decode cX4_draw 41 = .ok (.ireturn, 1) := by decide +kernel
theorem dX4_noteDay_0 : decode cX4_noteDay 0 = .ok (.aload_n 0, 1) := by decide +kernel
theorem dX4_noteDay_1 : decode cX4_noteDay 1 = .ok (.getfield 18, 3) := by decide +kernel
theorem dX4_noteDay_4 : decode cX4_noteDay 4 = .ok (.iconst 0, 1) := by decide +kernel
theorem dX4_noteDay_5 : decode cX4_noteDay 5 = .ok (.aload_n 1, 1) := by decide +kernel
theorem dX4_noteDay_6 : decode cX4_noteDay 6 = .ok (.getfield 203, 3) := by decide +kernel
theorem dX4_noteDay_9 : decode cX4_noteDay 9 = .ok (.aload_n 0, 1) := by decide +kernel
theorem dX4_noteDay_10 : decode cX4_noteDay 10 = .ok (.getfield 49, 3) := by decide +kernel
theorem dX4_noteDay_13 : decode cX4_noteDay 13 = .ok (.bipush 49, 2) := by decide +kernel
theorem dX4_noteDay_15 : decode cX4_noteDay 15 = .ok (.imul, 1) := by decide +kernel
theorem dX4_noteDay_16 : decode cX4_noteDay 16 = .ok (.bipush 49, 2) := by decide +kernel
theorem dX4_noteDay_18 : decode cX4_noteDay 18 = .ok (.invokestatic 189, 3) := by decide +kernel
theorem dX4_noteDay_21 : decode cX4_noteDay 21 = .ok (.iconst 0, 1) := by decide +kernel
theorem dX4_noteDay_22 : decode cX4_noteDay 22 = .ok (.istore_n 2, 1) := by decide +kernel
theorem dX4_noteDay_23 : decode cX4_noteDay 23 = .ok (.iload_n 2, 1) := by decide +kernel
theorem dX4_noteDay_24 : decode cX4_noteDay 24 = .ok (.bipush 8, 2) := by decide +kernel
theorem dX4_noteDay_26 : decode cX4_noteDay 26 = .ok (.if_icmp .ge 63, 3) := by decide +kernel
theorem dX4_noteDay_29 : decode cX4_noteDay 29 = .ok (.lconst 0, 1) := by decide +kernel
theorem dX4_noteDay_30 : decode cX4_noteDay 30 = .ok (.lstore_n 3, 1) := by decide +kernel
theorem dX4_noteDay_31 : decode cX4_noteDay 31 = .ok (.iconst 0, 1) := by decide +kernel
theorem dX4_noteDay_32 : decode cX4_noteDay 32 = .ok (.istore 5, 2) := by decide +kernel
theorem dX4_noteDay_34 : decode cX4_noteDay 34 = .ok (.iload 5, 2) := by decide +kernel
theorem dX4_noteDay_36 : decode cX4_noteDay 36 = .ok (.aload_n 0, 1) := by decide +kernel
theorem dX4_noteDay_37 : decode cX4_noteDay 37 = .ok (.getfield 33, 3) := by decide +kernel
theorem dX4_noteDay_40 : decode cX4_noteDay 40 = .ok (.iload_n 2, 1) := by decide +kernel
theorem dX4_noteDay_41 : decode cX4_noteDay 41 = .ok (.iaload, 1) := by decide +kernel
theorem dX4_noteDay_42 : decode cX4_noteDay 42 = .ok (.if_icmp .ge 26, 3) := by decide +kernel
theorem dX4_noteDay_45 : decode cX4_noteDay 45 = .ok (.lload_n 3, 1) := by decide +kernel
theorem dX4_noteDay_46 : decode cX4_noteDay 46 = .ok (.lconst 1, 1) := by decide +kernel
theorem dX4_noteDay_47 : decode cX4_noteDay 47 = .ok (.aload_n 0, 1) := by decide +kernel
theorem dX4_noteDay_48 : decode cX4_noteDay 48 = .ok (.getfield 30, 3) := by decide +kernel
theorem dX4_noteDay_51 : decode cX4_noteDay 51 = .ok (.iload_n 2, 1) := by decide +kernel
theorem dX4_noteDay_52 : decode cX4_noteDay 52 = .ok (.bipush 49, 2) := by decide +kernel
theorem dX4_noteDay_54 : decode cX4_noteDay 54 = .ok (.imul, 1) := by decide +kernel
theorem dX4_noteDay_55 : decode cX4_noteDay 55 = .ok (.iload 5, 2) := by decide +kernel
theorem dX4_noteDay_57 : decode cX4_noteDay 57 = .ok (.iadd, 1) := by decide +kernel
theorem dX4_noteDay_58 : decode cX4_noteDay 58 = .ok (.iaload, 1) := by decide +kernel
theorem dX4_noteDay_59 : decode cX4_noteDay 59 = .ok (.lshl, 1) := by decide +kernel
theorem dX4_noteDay_60 : decode cX4_noteDay 60 = .ok (.lor, 1) := by decide +kernel
theorem dX4_noteDay_61 : decode cX4_noteDay 61 = .ok (.lstore_n 3, 1) := by decide +kernel
theorem dX4_noteDay_62 : decode cX4_noteDay 62 = .ok (.iinc 5 1, 3) := by decide +kernel
theorem dX4_noteDay_65 : decode cX4_noteDay 65 = .ok (.goto (-31), 3) := by decide +kernel
theorem dX4_noteDay_68 : decode cX4_noteDay 68 = .ok (.aload_n 1, 1) := by decide +kernel
theorem dX4_noteDay_69 : decode cX4_noteDay 69 = .ok (.getfield 206, 3) := by decide +kernel
theorem dX4_noteDay_72 : decode cX4_noteDay 72 = .ok (.aload_n 0, 1) := by decide +kernel
theorem dX4_noteDay_73 : decode cX4_noteDay 73 = .ok (.getfield 49, 3) := by decide +kernel
theorem dX4_noteDay_76 : decode cX4_noteDay 76 = .ok (.bipush 8, 2) := by decide +kernel
theorem dX4_noteDay_78 : decode cX4_noteDay 78 = .ok (.imul, 1) := by decide +kernel
theorem dX4_noteDay_79 : decode cX4_noteDay 79 = .ok (.iload_n 2, 1) := by decide +kernel
theorem dX4_noteDay_80 : decode cX4_noteDay 80 = .ok (.iadd, 1) := by decide +kernel
theorem dX4_noteDay_81 : decode cX4_noteDay 81 = .ok (.lload_n 3, 1) := by decide +kernel
theorem dX4_noteDay_82 : decode cX4_noteDay 82 = .ok (.lastore, 1) := by decide +kernel
theorem dX4_noteDay_83 : decode cX4_noteDay 83 = .ok (.iinc 2 1, 3) := by decide +kernel
theorem dX4_noteDay_86 : decode cX4_noteDay 86 = .ok (.goto (-63), 3) := by decide +kernel
theorem dX4_noteDay_89 : decode cX4_noteDay 89 = .ok (.return_, 1) := by decide +kernel
theorem dX4_doneBy_0 : decode cX4_doneBy 0 = .ok (.aload_n 0, 1) := by decide +kernel
theorem dX4_doneBy_1 : decode cX4_doneBy 1 = .ok (.getfield 15, 3) := by decide +kernel
theorem dX4_doneBy_4 : decode cX4_doneBy 4 = .ok (.iload_n 1, 1) := by decide +kernel
theorem dX4_doneBy_5 : decode cX4_doneBy 5 = .ok (.iaload, 1) := by decide +kernel
theorem dX4_doneBy_6 : decode cX4_doneBy 6 = .ok (.iconst (-1), 1) := by decide +kernel
theorem dX4_doneBy_7 : decode cX4_doneBy 7 = .ok (.if_icmp .eq 17, 3) := by decide +kernel
theorem dX4_doneBy_10 : decode cX4_doneBy 10 = .ok (.aload_n 0, 1) := by decide +kernel
theorem dX4_doneBy_11 : decode cX4_doneBy 11 = .ok (.getfield 15, 3) := by decide +kernel
theorem dX4_doneBy_14 : decode cX4_doneBy 14 = .ok (.iload_n 1, 1) := by decide +kernel
theorem dX4_doneBy_15 : decode cX4_doneBy 15 = .ok (.iaload, 1) := by decide +kernel
theorem dX4_doneBy_16 : decode cX4_doneBy 16 = .ok (.iload_n 2, 1) := by decide +kernel
theorem dX4_doneBy_17 : decode cX4_doneBy 17 = .ok (.if_icmp .gt 7, 3) := by decide +kernel
theorem dX4_doneBy_20 : decode cX4_doneBy 20 = .ok (.iconst 1, 1) := by decide +kernel
theorem dX4_doneBy_21 : decode cX4_doneBy 21 = .ok (.goto 4, 3) := by decide +kernel
theorem dX4_doneBy_24 : decode cX4_doneBy 24 = .ok (.iconst 0, 1) := by decide +kernel
theorem dX4_doneBy_25 : decode cX4_doneBy 25 = .ok (.ireturn, 1) := by decide +kernel
theorem dX4_inTime_0 : decode cX4_inTime 0 = .ok (.aload_n 0, 1) := by decide +kernel
