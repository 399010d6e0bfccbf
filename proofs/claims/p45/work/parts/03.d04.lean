theorem dX8_burn_50 : decode cX8_burn 50 = .ok (.getfield 68, 3) := by decide +kernel
theorem dX8_burn_53 : decode cX8_burn 53 = .ok (.invokevirtual 252, 3) := by decide +kernel
theorem dX8_burn_56 : decode cX8_burn 56 = .ok (.aload_n 0, 1) := by decide +kernel
theorem dX8_burn_57 : decode cX8_burn 57 = .ok (.getfield 62, 3) := by decide +kernel
theorem dX8_burn_60 : decode cX8_burn 60 = .ok (.aload_n 0, 1) := by decide +kernel
theorem dX8_burn_61 : decode cX8_burn 61 = .ok (.getfield 28, 3) := by decide +kernel
theorem dX8_burn_64 : decode cX8_burn 64 = .ok (.invokevirtual 219, 3) := by decide +kernel
theorem dX8_burn_67 : decode cX8_burn 67 = .ok (.ireturn, 1) := by decide +kernel
theorem dX8_untie_0 : decode cX8_untie 0 = .ok (.aload_n 0, 1) := by decide +kernel
theorem dX8_untie_1 : decode cX8_untie 1 = .ok (.invokevirtual 175, 3) := by decide +kernel
theorem dX8_untie_4 : decode cX8_untie 4 = .ok (.ifCond .ne 12, 3) := by decide +kernel
theorem dX8_untie_7 : decode cX8_untie 7 = .ok (.iload_n 1, 1) := by decide +kernel
theorem dX8_untie_8 : decode cX8_untie 8 = .ok (.ifCond .lt 8, 3) := by decide +kernel
theorem dX8_untie_11 : decode cX8_untie 11 = .ok (.iload_n 1, 1) := by decide +kernel
theorem dX8_untie_12 : decode cX8_untie 12 = .ok (.iconst 1, 1) := by decide +kernel
theorem dX8_untie_13 : decode cX8_untie 13 = .ok (.if_icmp .le 6, 3) := by decide +kernel
theorem dX8_untie_16 : decode cX8_untie 16 = .ok (.bipush (-2), 2) := by decide +kernel
theorem dX8_untie_18 : decode cX8_untie 18 = .ok (.ireturn, 1) := by decide +kernel
theorem dX8_untie_19 : decode cX8_untie 19 = .ok (.aload_n 0, 1) := by decide +kernel
theorem dX8_untie_20 : decode cX8_untie 20 = .ok (.invokevirtual 153, 3) := by decide +kernel
theorem dX8_untie_23 : decode cX8_untie 23 = .ok (.astore_n 2, 1) := by decide +kernel
theorem dX8_untie_24 : decode cX8_untie 24 = .ok (.aload_n 0, 1) := by decide +kernel
theorem dX8_untie_25 : decode cX8_untie 25 = .ok (.getfield 28, 3) := by decide +kernel
theorem dX8_untie_28 : decode cX8_untie 28 = .ok (.getfield 226, 3) := by decide +kernel
theorem dX8_untie_31 : decode cX8_untie 31 = .ok (.aload_n 2, 1) := by decide +kernel
theorem dX8_untie_32 : decode cX8_untie 32 = .ok (.aload_n 0, 1) := by decide +kernel
theorem dX8_untie_33 : decode cX8_untie 33 = .ok (.getfield 28, 3) := by decide +kernel
theorem dX8_untie_36 : decode cX8_untie 36 = .ok (.invokevirtual 233, 3) := by decide +kernel
theorem dX8_untie_39 : decode cX8_untie 39 = .ok (.isub, 1) := by decide +kernel
theorem dX8_untie_40 : decode cX8_untie 40 = .ok (.istore_n 3, 1) := by decide +kernel
theorem dX8_untie_41 : decode cX8_untie 41 = .ok (.iload_n 3, 1) := by decide +kernel
theorem dX8_untie_42 : decode cX8_untie 42 = .ok (.bipush 12, 2) := by decide +kernel
theorem dX8_untie_44 : decode cX8_untie 44 = .ok (.if_icmp .le 6, 3) := by decide +kernel
theorem dX8_untie_47 : decode cX8_untie 47 = .ok (.bipush (-3), 2) := by decide +kernel
theorem dX8_untie_49 : decode cX8_untie 49 = .ok (.ireturn, 1) := by decide +kernel
theorem dX8_untie_50 : decode cX8_untie 50 = .ok (.aload_n 0, 1) := by decide +kernel
theorem dX8_untie_51 : decode cX8_untie 51 = .ok (.getfield 87, 3) := by decide +kernel
theorem dX8_untie_54 : decode cX8_untie 54 = .ok (.ifCond .ne 22, 3) := by decide +kernel
theorem dX8_untie_57 : decode cX8_untie 57 = .ok (.aload_n 0, 1) := by decide +kernel
theorem dX8_untie_58 : decode cX8_untie 58 = .ok (.aload_n 2, 1) := by decide +kernel
theorem dX8_untie_59 : decode cX8_untie 59 = .ok (.invokevirtual 302, 3) := by decide +kernel
theorem dX8_untie_62 : decode cX8_untie 62 = .ok (.aload_n 0, 1) := by decide +kernel
theorem dX8_untie_63 : decode cX8_untie 63 = .ok (.aload_n 0, 1) := by decide +kernel
theorem dX8_untie_64 : decode cX8_untie 64 = .ok (.iload_n 3, 1) := by decide +kernel
theorem dX8_untie_65 : decode cX8_untie 65 = .ok (.invokevirtual 306, 3) := by decide +kernel
theorem dX8_untie_68 : decode cX8_untie 68 = .ok (.putfield 90, 3) := by decide +kernel
theorem dX8_untie_71 : decode cX8_untie 71 = .ok (.aload_n 0, 1) := by decide +kernel
theorem dX8_untie_72 : decode cX8_untie 72 = .ok (.iconst 1, 1) := by decide +kernel
theorem dX8_untie_73 : decode cX8_untie 73 = .ok (.putfield 87, 3) := by decide +kernel
theorem dX8_untie_76 : decode cX8_untie 76 = .ok (.iload_n 1, 1) := by decide +kernel
theorem dX8_untie_77 : decode cX8_untie 77 = .ok (.iconst 1, 1) := by decide +kernel
theorem dX8_untie_78 : decode cX8_untie 78 = .ok (.if_icmp .eq 11, 3) := by decide +kernel
theorem dX8_untie_81 : decode cX8_untie 81 = .ok (.aload_n 0, 1) := by decide +kernel
theorem dX8_untie_82 : decode cX8_untie 82 = .ok (.getfield 90, 3) := by decide +kernel
theorem dX8_untie_85 : decode cX8_untie 85 = .ok (.iconst (-1), 1) := by decide +kernel
theorem dX8_untie_86 : decode cX8_untie 86 = .ok (.if_icmp .ne 10, 3) := by decide +kernel
theorem dX8_untie_89 : decode cX8_untie 89 = .ok (.aload_n 0, 1) := by decide +kernel
theorem dX8_untie_90 : decode cX8_untie 90 = .ok (.getfield 90, 3) := by decide +kernel
theorem dX8_untie_93 : decode cX8_untie 93 = .ok (.goto 10, 3) := by decide +kernel
theorem dX8_untie_96 : decode cX8_untie 96 = .ok (.aload_n 0, 1) := by decide +kernel
theorem dX8_untie_97 : decode cX8_untie 97 = .ok (.getfield 90, 3) := by decide +kernel
theorem dX8_untie_100 : decode cX8_untie 100 = .ok (.invokestatic 256, 3) := by decide +kernel
theorem dX8_untie_103 : decode cX8_untie 103 = .ok (.ireturn, 1) := by decide +kernel
theorem dX8_chance_0 : decode cX8_chance 0 = .ok (.aload_n 0, 1) := by decide +kernel
theorem dX8_chance_1 : decode cX8_chance 1 = .ok (.getfield 28, 3) := by decide +kernel
theorem dX8_chance_4 : decode cX8_chance 4 = .ok (.iload_n 1, 1) := by decide +kernel
theorem dX8_chance_5 : decode cX8_chance 5 = .ok (.invokevirtual 172, 3) := by decide +kernel
theorem dX8_chance_8 : decode cX8_chance 8 = .ok (.ifCond .eq 33, 3) := by decide +kernel
theorem dX8_chance_11 : decode cX8_chance 11 = .ok (.aload_n 0, 1) := by decide +kernel
theorem dX8_chance_12 : decode cX8_chance 12 = .ok (.iload_n 2, 1) := by decide +kernel
theorem dX8_chance_13 : decode cX8_chance 13 = .ok (.invokevirtual 242, 3) := by decide +kernel
theorem dX8_chance_16 : decode cX8_chance 16 = .ok (.ifCond .eq 25, 3) := by decide +kernel
theorem dX8_chance_19 : decode cX8_chance 19 = .ok (.iload_n 3, 1) := by decide +kernel
theorem dX8_chance_20 : decode cX8_chance 20 = .ok (.iconst 1, 1) := by decide +kernel
theorem dX8_chance_21 : decode cX8_chance 21 = .ok (.if_icmp .lt 20, 3) := by decide +kernel
theorem dX8_chance_24 : decode cX8_chance 24 = .ok (.iload_n 3, 1) := by decide +kernel
theorem dX8_chance_25 : decode cX8_chance 25 = .ok (.bipush 20, 2) := by decide +kernel
theorem dX8_chance_27 : decode cX8_chance 27 = .ok (.if_icmp .gt 14, 3) := by decide +kernel
theorem dX8_chance_30 : decode cX8_chance 30 = .ok (.iload 4, 2) := by decide +kernel
theorem dX8_chance_32 : decode cX8_chance 32 = .ok (.ifCond .lt 9, 3) := by decide +kernel
theorem dX8_chance_35 : decode cX8_chance 35 = .ok (.iload 4, 2) := by decide +kernel
theorem dX8_chance_37 : decode cX8_chance 37 = .ok (.iconst 1, 1) := by decide +kernel
theorem dX8_chance_38 : decode cX8_chance 38 = .ok (.if_icmp .le 6, 3) := by decide +kernel
theorem dX8_chance_41 : decode cX8_chance 41 = .ok (.bipush (-2), 2) := by decide +kernel
theorem dX8_chance_43 : decode cX8_chance 43 = .ok (.ireturn, 1) := by decide +kernel
theorem dX8_chance_44 : decode cX8_chance 44 = .ok (.aload_n 0, 1) := by decide +kernel
theorem dX8_chance_45 : decode cX8_chance 45 = .ok (.getfield 68, 3) := by decide +kernel
theorem dX8_chance_48 : decode cX8_chance 48 = .ok (.aload_n 0, 1) := by decide +kernel
theorem dX8_chance_49 : decode cX8_chance 49 = .ok (.getfield 28, 3) := by decide +kernel
theorem dX8_chance_52 : decode cX8_chance 52 = .ok (.invokevirtual 245, 3) := by decide +kernel
theorem dX8_chance_55 : decode cX8_chance 55 = .ok (.aload_n 0, 1) := by decide +kernel
theorem dX8_chance_56 : decode cX8_chance 56 = .ok (.getfield 68, 3) := by decide +kernel
theorem dX8_chance_59 : decode cX8_chance 59 = .ok (.getfield 248, 3) := by decide +kernel
theorem dX8_chance_62 : decode cX8_chance 62 = .ok (.iconst 3, 1) := by decide +kernel
theorem dX8_chance_63 : decode cX8_chance 63 = .ok (.putfield 178, 3) := by decide +kernel
theorem dX8_chance_66 : decode cX8_chance 66 = .ok (.iconst 0, 1) := by decide +kernel
theorem dX8_chance_67 : decode cX8_chance 67 = .ok (.istore 5, 2) := by decide +kernel
theorem dX8_chance_69 : decode cX8_chance 69 = .ok (.iconst 0, 1) := by decide +kernel
theorem dX8_chance_70 : decode cX8_chance 70 = .ok (.istore 6, 2) := by decide +kernel
theorem dX8_chance_72 : decode cX8_chance 72 = .ok (.iconst 0, 1) := by decide +kernel
theorem dX8_chance_73 : decode cX8_chance 73 = .ok (.istore 7, 2) := by decide +kernel
theorem dX8_chance_75 : decode cX8_chance 75 = .ok (.iload 7, 2) := by decide +kernel
theorem dX8_chance_77 : decode cX8_chance 77 = .ok (.iload_n 3, 1) := by decide +kernel
theorem dX8_chance_78 : decode cX8_chance 78 = .ok (.if_icmp .ge 96, 3) := by decide +kernel
theorem dX8_chance_81 : decode cX8_chance 81 = .ok (.aload_n 0, 1) := by decide +kernel
theorem dX8_chance_82 : decode cX8_chance 82 = .ok (.getfield 68, 3) := by decide +kernel
theorem dX8_chance_85 : decode cX8_chance 85 = .ok (.getfield 248, 3) := by decide +kernel
theorem dX8_chance_88 : decode cX8_chance 88 = .ok (.iload_n 2, 1) := by decide +kernel
theorem dX8_chance_89 : decode cX8_chance 89 = .ok (.iload 7, 2) := by decide +kernel
theorem dX8_chance_91 : decode cX8_chance 91 = .ok (.iadd, 1) := by decide +kernel
theorem dX8_chance_92 : decode cX8_chance 92 = .ok (.putfield 249, 3) := by decide +kernel
theorem dX8_chance_95 : decode cX8_chance 95 = .ok (.aload_n 0, 1) := by decide +kernel
theorem dX8_chance_96 : decode cX8_chance 96 = .ok (.getfield 62, 3) := by decide +kernel
theorem dX8_chance_99 : decode cX8_chance 99 = .ok (.aload_n 0, 1) := by decide +kernel
theorem dX8_chance_100 : decode cX8_chance 100 = .ok (.getfield 68, 3) := by decide +kernel
theorem dX8_chance_103 : decode cX8_chance 103 = .ok (.invokevirtual 252, 3) := by decide +kernel
theorem dX8_chance_106 : decode cX8_chance 106 = .ok (.iload 5, 2) := by decide +kernel
theorem dX8_chance_108 : decode cX8_chance 108 = .ok (.aload_n 0, 1) := by decide +kernel
theorem dX8_chance_109 : decode cX8_chance 109 = .ok (.getfield 62, 3) := by decide +kernel
theorem dX8_chance_112 : decode cX8_chance 112 = .ok (.aload_n 0, 1) := by decide +kernel
theorem dX8_chance_113 : decode cX8_chance 113 = .ok (.getfield 28, 3) := by decide +kernel
theorem dX8_chance_116 : decode cX8_chance 116 = .ok (.iload_n 1, 1) := by decide +kernel
theorem dX8_chance_117 : decode cX8_chance 117 = .ok (.invokevirtual 229, 3) := by decide +kernel
theorem dX8_chance_120 : decode cX8_chance 120 = .ok (.ifCond .eq 7, 3) := by decide +kernel
theorem dX8_chance_123 : decode cX8_chance 123 = .ok (.iconst 1, 1) := by decide +kernel
theorem dX8_chance_124 : decode cX8_chance 124 = .ok (.goto 4, 3) := by decide +kernel
theorem dX8_chance_127 : decode cX8_chance 127 = .ok (.iconst 0, 1) := by decide +kernel
theorem dX8_chance_128 : decode cX8_chance 128 = .ok (.iadd, 1) := by decide +kernel
theorem dX8_chance_129 : decode cX8_chance 129 = .ok (.istore 5, 2) := by decide +kernel
theorem dX8_chance_131 : decode cX8_chance 131 = .ok (.iload 6, 2) := by decide +kernel
theorem dX8_chance_133 : decode cX8_chance 133 = .ok (.aload_n 0, 1) := by decide +kernel
theorem dX8_chance_134 : decode cX8_chance 134 = .ok (.getfield 62, 3) := by decide +kernel
theorem dX8_chance_137 : decode cX8_chance 137 = .ok (.getfield 181, 3) := by decide +kernel
theorem dX8_chance_140 : decode cX8_chance 140 = .ok (.iload_n 1, 1) := by decide +kernel
theorem dX8_chance_141 : decode cX8_chance 141 = .ok (.iaload, 1) := by decide +kernel
theorem dX8_chance_142 : decode cX8_chance 142 = .ok (.iconst (-1), 1) := by decide +kernel
theorem dX8_chance_143 : decode cX8_chance 143 = .ok (.if_icmp .ne 13, 3) := by decide +kernel
theorem dX8_chance_146 : decode cX8_chance 146 = .ok (.aload_n 0, 1) := by decide +kernel
theorem dX8_chance_147 : decode cX8_chance 147 = .ok (.getfield 28, 3) := by decide +kernel
theorem dX8_chance_150 : decode cX8_chance 150 = .ok (.getfield 288, 3) := by decide +kernel
theorem dX8_chance_153 : decode cX8_chance 153 = .ok (.goto 12, 3) := by decide +kernel
theorem dX8_chance_156 : decode cX8_chance 156 = .ok (.aload_n 0, 1) := by decide +kernel
theorem dX8_chance_157 : decode cX8_chance 157 = .ok (.getfield 62, 3) := by decide +kernel
theorem dX8_chance_160 : decode cX8_chance 160 = .ok (.getfield 181, 3) := by decide +kernel
theorem dX8_chance_163 : decode cX8_chance 163 = .ok (.iload_n 1, 1) := by decide +kernel
theorem dX8_chance_164 : decode cX8_chance 164 = .ok (.iaload, 1) := by decide +kernel
theorem dX8_chance_165 : decode cX8_chance 165 = .ok (.iadd, 1) := by decide +kernel
theorem dX8_chance_166 : decode cX8_chance 166 = .ok (.istore 6, 2) := by decide +kernel
theorem dX8_chance_168 : decode cX8_chance 168 = .ok (.iinc 7 1, 3) := by decide +kernel
theorem dX8_chance_171 : decode cX8_chance 171 = .ok (.goto (-96), 3) := by decide +kernel
theorem dX8_chance_174 : decode cX8_chance 174 = .ok (.iload 4, 2) := by decide +kernel
theorem dX8_chance_176 : decode cX8_chance 176 = .ok (.ifCond .ne 8, 3) := by decide +kernel
theorem dX8_chance_179 : decode cX8_chance 179 = .ok (.iload 5, 2) := by decide +kernel
theorem dX8_chance_181 : decode cX8_chance 181 = .ok (.goto 5, 3) := by decide +kernel
theorem dX8_chance_184 : decode cX8_chance 184 = .ok (.iload 6, 2) := by decide +kernel
theorem dX8_chance_186 : decode cX8_chance 186 = .ok (.ireturn, 1) := by decide +kernel
theorem dX8_judge_0 : decode cX8_judge 0 = .ok (.aload_n 0, 1) := by decide +kernel
theorem dX8_judge_1 : decode cX8_judge 1 = .ok (.invokevirtual 175, 3) := by decide +kernel
theorem dX8_judge_4 : decode cX8_judge 4 = .ok (.ifCond .ne 11, 3) := by decide +kernel
theorem dX8_judge_7 : decode cX8_judge 7 = .ok (.aload_n 0, 1) := by decide +kernel
theorem dX8_judge_8 : decode cX8_judge 8 = .ok (.iload_n 1, 1) := by decide +kernel
theorem dX8_judge_9 : decode cX8_judge 9 = .ok (.invokevirtual 309, 3) := by decide +kernel
theorem dX8_judge_12 : decode cX8_judge 12 = .ok (.ifCond .ne 6, 3) := by decide +kernel
theorem dX8_judge_15 : decode cX8_judge 15 = .ok (.bipush (-2), 2) := by decide +kernel
theorem dX8_judge_17 : decode cX8_judge 17 = .ok (.ireturn, 1) := by decide +kernel
theorem dX8_judge_18 : decode cX8_judge 18 = .ok (.aload_n 0, 1) := by decide +kernel
theorem dX8_judge_19 : decode cX8_judge 19 = .ok (.getfield 42, 3) := by decide +kernel
theorem dX8_judge_22 : decode cX8_judge 22 = .ok (.iload_n 1, 1) := by decide +kernel
theorem dX8_judge_23 : decode cX8_judge 23 = .ok (.aaload, 1) := by decide +kernel
theorem dX8_judge_24 : decode cX8_judge 24 = .ok (.astore_n 2, 1) := by decide +kernel
theorem dX8_judge_25 : decode cX8_judge 25 = .ok (.aload_n 2, 1) := by decide +kernel
theorem dX8_judge_26 : decode cX8_judge 26 = .ok (.getfield 312, 3) := by decide +kernel
theorem dX8_judge_29 : decode cX8_judge 29 = .ok (.ifCond .ne 6, 3) := by decide +kernel
theorem dX8_judge_32 : decode cX8_judge 32 = .ok (.bipush (-6), 2) := by decide +kernel
theorem dX8_judge_34 : decode cX8_judge 34 = .ok (.ireturn, 1) := by decide +kernel
theorem dX8_judge_35 : decode cX8_judge 35 = .ok (.aload_n 0, 1) := by decide +kernel
theorem dX8_judge_36 : decode cX8_judge 36 = .ok (.invokevirtual 153, 3) := by decide +kernel
theorem dX8_judge_39 : decode cX8_judge 39 = .ok (.astore_n 3, 1) := by decide +kernel
theorem dX8_judge_40 : decode cX8_judge 40 = .ok (.iconst 0, 1) := by decide +kernel
theorem dX8_judge_41 : decode cX8_judge 41 = .ok (.istore 4, 2) := by decide +kernel
theorem dX8_judge_43 : decode cX8_judge 43 = .ok (.iconst 0, 1) := by decide +kernel
theorem dX8_judge_44 : decode cX8_judge 44 = .ok (.istore 5, 2) := by decide +kernel
theorem dX8_judge_46 : decode cX8_judge 46 = .ok (.iload 5, 2) := by decide +kernel
theorem dX8_judge_48 : decode cX8_judge 48 = .ok (.aload_n 3, 1) := by decide +kernel
theorem dX8_judge_49 : decode cX8_judge 49 = .ok (.getfield 315, 3) := by decide +kernel
theorem dX8_judge_52 : decode cX8_judge 52 = .ok (.if_icmp .ge 54, 3) := by decide +kernel
theorem dX8_judge_55 : decode cX8_judge 55 = .ok (.aload_n 3, 1) := by decide +kernel
theorem dX8_judge_56 : decode cX8_judge 56 = .ok (.getfield 318, 3) := by decide +kernel
theorem dX8_judge_59 : decode cX8_judge 59 = .ok (.iload 5, 2) := by decide +kernel
theorem dX8_judge_61 : decode cX8_judge 61 = .ok (.iaload, 1) := by decide +kernel
theorem dX8_judge_62 : decode cX8_judge 62 = .ok (.istore 6, 2) := by decide +kernel
theorem dX8_judge_64 : decode cX8_judge 64 = .ok (.iload 6, 2) := by decide +kernel
theorem dX8_judge_66 : decode cX8_judge 66 = .ok (.bipush 24, 2) := by decide +kernel
theorem dX8_judge_68 : decode cX8_judge 68 = .ok (.if_icmp .ge 32, 3) := by decide +kernel
theorem dX8_judge_71 : decode cX8_judge 71 = .ok (.iload 4, 2) := by decide +kernel
theorem dX8_judge_73 : decode cX8_judge 73 = .ok (.aload_n 2, 1) := by decide +kernel
theorem dX8_judge_74 : decode cX8_judge 74 = .ok (.getfield 321, 3) := by decide +kernel
theorem dX8_judge_77 : decode cX8_judge 77 = .ok (.if_icmp .ge 17, 3) := by decide +kernel
theorem dX8_judge_80 : decode cX8_judge 80 = .ok (.aload_n 2, 1) := by decide +kernel
theorem dX8_judge_81 : decode cX8_judge 81 = .ok (.getfield 322, 3) := by decide +kernel
theorem dX8_judge_84 : decode cX8_judge 84 = .ok (.iload 4, 2) := by decide +kernel
theorem dX8_judge_86 : decode cX8_judge 86 = .ok (.laload, 1) := by decide +kernel
theorem dX8_judge_87 : decode cX8_judge 87 = .ok (.iload 6, 2) := by decide +kernel
theorem dX8_judge_89 : decode cX8_judge 89 = .ok (.i2l, 1) := by decide +kernel
theorem dX8_judge_90 : decode cX8_judge 90 = .ok (.lcmp, 1) := by decide +kernel
theorem dX8_judge_91 : decode cX8_judge 91 = .ok (.ifCond .eq 6, 3) := by decide +kernel
theorem dX8_judge_94 : decode cX8_judge 94 = .ok (.iload 4, 2) := by decide +kernel
theorem dX8_judge_96 : decode cX8_judge 96 = .ok (.ireturn, 1) := by decide +kernel
theorem dX8_judge_97 : decode cX8_judge 97 = .ok (.iinc 4 1, 3) := by decide +kernel
theorem dX8_judge_100 : decode cX8_judge 100 = .ok (.iinc 5 1, 3) := by decide +kernel
theorem dX8_judge_103 : decode cX8_judge 103 = .ok (.goto (-57), 3) := by decide +kernel
theorem dX8_judge_106 : decode cX8_judge 106 = .ok (.iload 4, 2) := by decide +kernel
theorem dX8_judge_108 : decode cX8_judge 108 = .ok (.ireturn, 1) := by decide +kernel
theorem dX8_count_0 : decode cX8_count 0 = .ok (.iload_n 1, 1) := by decide +kernel
theorem dX8_count_1 : decode cX8_count 1 = .ok (.tableswitch 120 0 8 #[51, 59, 67, 75, 83, 91, 99, 107, 115], 51) := by decide +kernel
theorem dX8_count_52 : decode cX8_count 52 = .ok (.aload_n 0, 1) := by decide +kernel
theorem dX8_count_53 : decode cX8_count 53 = .ok (.getfield 28, 3) := by decide +kernel
theorem dX8_count_56 : decode cX8_count 56 = .ok (.getfield 325, 3) := by decide +kernel
theorem dX8_count_59 : decode cX8_count 59 = .ok (.ireturn, 1) := by decide +kernel
theorem dX8_count_60 : decode cX8_count 60 = .ok (.aload_n 0, 1) := by decide +kernel
theorem dX8_count_61 : decode cX8_count 61 = .ok (.getfield 28, 3) := by decide +kernel
theorem dX8_count_64 : decode cX8_count 64 = .ok (.getfield 226, 3) := by decide +kernel
theorem dX8_count_67 : decode cX8_count 67 = .ok (.ireturn, 1) := by decide +kernel
theorem dX8_count_68 : decode cX8_count 68 = .ok (.aload_n 0, 1) := by decide +kernel
theorem dX8_count_69 : decode cX8_count 69 = .ok (.getfield 28, 3) := by decide +kernel
theorem dX8_count_72 : decode cX8_count 72 = .ok (.getfield 288, 3) := by decide +kernel
theorem dX8_count_75 : decode cX8_count 75 = .ok (.ireturn, 1) := by decide +kernel
theorem dX8_count_76 : decode cX8_count 76 = .ok (.aload_n 0, 1) := by decide +kernel
theorem dX8_count_77 : decode cX8_count 77 = .ok (.getfield 28, 3) := by decide +kernel
theorem dX8_count_80 : decode cX8_count 80 = .ok (.getfield 184, 3) := by decide +kernel
theorem dX8_count_83 : decode cX8_count 83 = .ok (.ireturn, 1) := by decide +kernel
theorem dX8_count_84 : decode cX8_count 84 = .ok (.aload_n 0, 1) := by decide +kernel
theorem dX8_count_85 : decode cX8_count 85 = .ok (.getfield 28, 3) := by decide +kernel
theorem dX8_count_88 : decode cX8_count 88 = .ok (.getfield 178, 3) := by decide +kernel
theorem dX8_count_91 : decode cX8_count 91 = .ok (.ireturn, 1) := by decide +kernel
theorem dX8_count_92 : decode cX8_count 92 = .ok (.aload_n 0, 1) := by decide +kernel
theorem dX8_count_93 : decode cX8_count 93 = .ok (.getfield 28, 3) := by decide +kernel
theorem dX8_count_96 : decode cX8_count 96 = .ok (.getfield 119, 3) := by decide +kernel
theorem dX8_count_99 : decode cX8_count 99 = .ok (.ireturn, 1) := by decide +kernel
theorem dX8_count_100 : decode cX8_count 100 = .ok (.aload_n 0, 1) := by decide +kernel
theorem dX8_count_101 : decode cX8_count 101 = .ok (.getfield 10, 3) := by decide +kernel
theorem dX8_count_104 : decode cX8_count 104 = .ok (.getfield 103, 3) := by decide +kernel
theorem dX8_count_107 : decode cX8_count 107 = .ok (.ireturn, 1) := by decide +kernel
theorem dX8_count_108 : decode cX8_count 108 = .ok (.aload_n 0, 1) := by decide +kernel
theorem dX8_count_109 : decode cX8_count 109 = .ok (.getfield 28, 3) := by decide +kernel
theorem dX8_count_112 : decode cX8_count 112 = .ok (.getfield 249, 3) := by decide +kernel
theorem dX8_count_115 : decode cX8_count 115 = .ok (.ireturn, 1) := by decide +kernel
theorem dX8_count_116 : decode cX8_count 116 = .ok (.aload_n 0, 1) := by decide +kernel
theorem dX8_count_117 : decode cX8_count 117 = .ok (.invokevirtual 328, 3) := by decide +kernel
theorem dX8_count_120 : decode cX8_count 120 = .ok (.ireturn, 1) := by decide +kernel
theorem dX8_count_121 : decode cX8_count 121 = .ok (.iconst (-1), 1) := by decide +kernel
theorem dX8_count_122 : decode cX8_count 122 = .ok (.ireturn, 1) := by decide +kernel
theorem dX8_keep_0 : decode cX8_keep 0 = .ok (.iload_n 1, 1) := by decide +kernel
theorem dX8_keep_1 : decode cX8_keep 1 = .ok (.ifCond .lt 8, 3) := by decide +kernel
theorem dX8_keep_4 : decode cX8_keep 4 = .ok (.iload_n 1, 1) := by decide +kernel
theorem dX8_keep_5 : decode cX8_keep 5 = .ok (.iconst 3, 1) := by decide +kernel
theorem dX8_keep_6 : decode cX8_keep 6 = .ok (.if_icmp .lt 6, 3) := by decide +kernel
theorem dX8_keep_9 : decode cX8_keep 9 = .ok (.bipush (-2), 2) := by decide +kernel
theorem dX8_keep_11 : decode cX8_keep 11 = .ok (.ireturn, 1) := by decide +kernel
theorem dX8_keep_12 : decode cX8_keep 12 = .ok (.aload_n 0, 1) := by decide +kernel
theorem dX8_keep_13 : decode cX8_keep 13 = .ok (.getfield 32, 3) := by decide +kernel
theorem dX8_keep_16 : decode cX8_keep 16 = .ok (.iload_n 1, 1) := by decide +kernel
theorem dX8_keep_17 : decode cX8_keep 17 = .ok (.aaload, 1) := by decide +kernel
theorem dX8_keep_18 : decode cX8_keep 18 = .ok (.aload_n 0, 1) := by decide +kernel
theorem dX8_keep_19 : decode cX8_keep 19 = .ok (.getfield 28, 3) := by decide +kernel
theorem dX8_keep_22 : decode cX8_keep 22 = .ok (.invokevirtual 112, 3) := by decide +kernel
theorem dX8_keep_25 : decode cX8_keep 25 = .ok (.aload_n 0, 1) := by decide +kernel
theorem dX8_keep_26 : decode cX8_keep 26 = .ok (.getfield 36, 3) := by decide +kernel
theorem dX8_keep_29 : decode cX8_keep 29 = .ok (.iload_n 1, 1) := by decide +kernel
theorem dX8_keep_30 : decode cX8_keep 30 = .ok (.iconst 1, 1) := by decide +kernel
theorem dX8_keep_31 : decode cX8_keep 31 = .ok (.bastore, 1) := by decide +kernel
theorem dX8_keep_32 : decode cX8_keep 32 = .ok (.iconst 0, 1) := by decide +kernel
theorem dX8_keep_33 : decode cX8_keep 33 = .ok (.ireturn, 1) := by decide +kernel
theorem dX8_back_0 : decode cX8_back 0 = .ok (.iload_n 1, 1) := by decide +kernel
theorem dX8_back_1 : decode cX8_back 1 = .ok (.ifCond .lt 8, 3) := by decide +kernel
theorem dX8_back_4 : decode cX8_back 4 = .ok (.iload_n 1, 1) := by decide +kernel
theorem dX8_back_5 : decode cX8_back 5 = .ok (.iconst 3, 1) := by decide +kernel
theorem dX8_back_6 : decode cX8_back 6 = .ok (.if_icmp .lt 6, 3) := by decide +kernel
theorem dX8_back_9 : decode cX8_back 9 = .ok (.bipush (-2), 2) := by decide +kernel
theorem dX8_back_11 : decode cX8_back 11 = .ok (.ireturn, 1) := by decide +kernel
theorem dX8_back_12 : decode cX8_back 12 = .ok (.aload_n 0, 1) := by decide +kernel
theorem dX8_back_13 : decode cX8_back 13 = .ok (.getfield 36, 3) := by decide +kernel
theorem dX8_back_16 : decode cX8_back 16 = .ok (.iload_n 1, 1) := by decide +kernel
theorem dX8_back_17 : decode cX8_back 17 = .ok (.baload, 1) := by decide +kernel
theorem dX8_back_18 : decode cX8_back 18 = .ok (.ifCond .ne 6, 3) := by decide +kernel
theorem dX8_back_21 : decode cX8_back 21 = .ok (.bipush (-6), 2) := by decide +kernel
theorem dX8_back_23 : decode cX8_back 23 = .ok (.ireturn, 1) := by decide +kernel
theorem dX8_back_24 : decode cX8_back 24 = .ok (.aload_n 0, 1) := by decide +kernel
theorem dX8_back_25 : decode cX8_back 25 = .ok (.getfield 28, 3) := by decide +kernel
theorem dX8_back_28 : decode cX8_back 28 = .ok (.aload_n 0, 1) := by decide +kernel
theorem dX8_back_29 : decode cX8_back 29 = .ok (.getfield 32, 3) := by decide +kernel
theorem dX8_back_32 : decode cX8_back 32 = .ok (.iload_n 1, 1) := by decide +kernel
theorem dX8_back_33 : decode cX8_back 33 = .ok (.aaload, 1) := by decide +kernel
theorem dX8_back_34 : decode cX8_back 34 = .ok (.invokevirtual 112, 3) := by decide +kernel
theorem dX8_back_37 : decode cX8_back 37 = .ok (.aload_n 0, 1) := by decide +kernel
theorem dX8_back_38 : decode cX8_back 38 = .ok (.invokevirtual 116, 3) := by decide +kernel
theorem dX8_back_41 : decode cX8_back 41 = .ok (.iconst 0, 1) := by decide +kernel
theorem dX8_back_42 : decode cX8_back 42 = .ok (.ireturn, 1) := by decide +kernel
theorem dX8_row_0 : decode cX8_row 0 = .ok (.aload_n 0, 1) := by decide +kernel
theorem dX8_row_1 : decode cX8_row 1 = .ok (.iload_n 1, 1) := by decide +kernel
theorem dX8_row_2 : decode cX8_row 2 = .ok (.invokevirtual 309, 3) := by decide +kernel
theorem dX8_row_5 : decode cX8_row 5 = .ok (.ifCond .eq 18, 3) := by decide +kernel
theorem dX8_row_8 : decode cX8_row 8 = .ok (.iload_n 2, 1) := by decide +kernel
theorem dX8_row_9 : decode cX8_row 9 = .ok (.ifCond .lt 14, 3) := by decide +kernel
theorem dX8_row_12 : decode cX8_row 12 = .ok (.iload_n 2, 1) := by decide +kernel
theorem dX8_row_13 : decode cX8_row 13 = .ok (.iconst 3, 1) := by decide +kernel
theorem dX8_row_14 : decode cX8_row 14 = .ok (.if_icmp .gt 9, 3) := by decide +kernel
theorem dX8_row_17 : decode cX8_row 17 = .ok (.iload_n 3, 1) := by decide +kernel
theorem dX8_row_18 : decode cX8_row 18 = .ok (.bipush 60, 2) := by decide +kernel
theorem dX8_row_20 : decode cX8_row 20 = .ok (.if_icmp .le 6, 3) := by decide +kernel
theorem dX8_row_23 : decode cX8_row 23 = .ok (.bipush (-2), 2) := by decide +kernel
theorem dX8_row_25 : decode cX8_row 25 = .ok (.ireturn, 1) := by decide +kernel
theorem dX8_row_26 : decode cX8_row 26 = .ok (.iload_n 3, 1) := by decide +kernel
theorem dX8_row_27 : decode cX8_row 27 = .ok (.ifCond .ge 6, 3) := by decide +kernel
theorem dX8_row_30 : decode cX8_row 30 = .ok (.bipush (-3), 2) := by decide +kernel
theorem dX8_row_32 : decode cX8_row 32 = .ok (.ireturn, 1) := by decide +kernel
theorem dX8_row_33 : decode cX8_row 33 = .ok (.aload_n 0, 1) := by decide +kernel
theorem dX8_row_34 : decode cX8_row 34 = .ok (.getfield 42, 3) := by decide +kernel
theorem dX8_row_37 : decode cX8_row 37 = .ok (.iload_n 1, 1) := by decide +kernel
theorem dX8_row_38 : decode cX8_row 38 = .ok (.aaload, 1) := by decide +kernel
theorem dX8_row_39 : decode cX8_row 39 = .ok (.iload_n 2, 1) := by decide +kernel
theorem dX8_row_40 : decode cX8_row 40 = .ok (.iload_n 3, 1) := by decide +kernel
theorem dX8_row_41 : decode cX8_row 41 = .ok (.invokevirtual 331, 3) := by decide +kernel
theorem dX8_row_44 : decode cX8_row 44 = .ok (.iconst 0, 1) := by decide +kernel
theorem dX8_row_45 : decode cX8_row 45 = .ok (.ireturn, 1) := by decide +kernel
theorem dX8_write_0 : decode cX8_write 0 = .ok (.aload_n 0, 1) := by decide +kernel
theorem dX8_write_1 : decode cX8_write 1 = .ok (.iload_n 1, 1) := by decide +kernel
theorem dX8_write_2 : decode cX8_write 2 = .ok (.invokevirtual 309, 3) := by decide +kernel
theorem dX8_write_5 : decode cX8_write 5 = .ok (.ifCond .ne 6, 3) := by decide +kernel
theorem dX8_write_8 : decode cX8_write 8 = .ok (.bipush (-2), 2) := by decide +kernel
theorem dX8_write_10 : decode cX8_write 10 = .ok (.ireturn, 1) := by decide +kernel
theorem dX8_write_11 : decode cX8_write 11 = .ok (.aload_n 0, 1) := by decide +kernel
theorem dX8_write_12 : decode cX8_write 12 = .ok (.getfield 42, 3) := by decide +kernel
theorem dX8_write_15 : decode cX8_write 15 = .ok (.iload_n 1, 1) := by decide +kernel
theorem dX8_write_16 : decode cX8_write 16 = .ok (.aaload, 1) := by decide +kernel
theorem dX8_write_17 : decode cX8_write 17 = .ok (.astore 5, 2) := by decide +kernel
theorem dX8_write_19 : decode cX8_write 19 = .ok (.aload 5, 2) := by decide +kernel
theorem dX8_write_21 : decode cX8_write 21 = .ok (.getfield 312, 3) := by decide +kernel
theorem dX8_write_24 : decode cX8_write 24 = .ok (.ifCond .ne 6, 3) := by decide +kernel
theorem dX8_write_27 : decode cX8_write 27 = .ok (.bipush (-6), 2) := by decide +kernel
theorem dX8_write_29 : decode cX8_write 29 = .ok (.ireturn, 1) := by decide +kernel
theorem dX8_write_30 : decode cX8_write 30 = .ok (.iload_n 2, 1) := by decide +kernel
theorem dX8_write_31 : decode cX8_write 31 = .ok (.ifCond .lt 12, 3) := by decide +kernel
theorem dX8_write_34 : decode cX8_write 34 = .ok (.iload_n 2, 1) := by decide +kernel
theorem dX8_write_35 : decode cX8_write 35 = .ok (.aload 5, 2) := by decide +kernel
theorem dX8_write_37 : decode cX8_write 37 = .ok (.getfield 321, 3) := by decide +kernel
theorem dX8_write_40 : decode cX8_write 40 = .ok (.if_icmp .lt 6, 3) := by decide +kernel
theorem dX8_write_43 : decode cX8_write 43 = .ok (.bipush (-7), 2) := by decide +kernel
theorem dX8_write_45 : decode cX8_write 45 = .ok (.ireturn, 1) := by decide +kernel
theorem dX8_write_46 : decode cX8_write 46 = .ok (.aload 5, 2) := by decide +kernel
theorem dX8_write_48 : decode cX8_write 48 = .ok (.getfield 322, 3) := by decide +kernel
theorem dX8_write_51 : decode cX8_write 51 = .ok (.iload_n 2, 1) := by decide +kernel
theorem dX8_write_52 : decode cX8_write 52 = .ok (.aload 5, 2) := by decide +kernel
theorem dX8_write_54 : decode cX8_write 54 = .ok (.lload_n 3, 1) := by decide +kernel
theorem dX8_write_55 : decode cX8_write 55 = .ok (.invokevirtual 334, 3) := by decide +kernel
theorem dX8_write_58 : decode cX8_write 58 = .ok (.lastore, 1) := by decide +kernel
theorem dX8_write_59 : decode cX8_write 59 = .ok (.iconst 0, 1) := by decide +kernel
theorem dX8_write_60 : decode cX8_write 60 = .ok (.ireturn, 1) := by decide +kernel
theorem dX8_paste_0 : decode cX8_paste 0 = .ok (.aload_n 0, 1) := by decide +kernel
theorem dX8_paste_1 : decode cX8_paste 1 = .ok (.iload_n 1, 1) := by decide +kernel
theorem dX8_paste_2 : decode cX8_paste 2 = .ok (.invokevirtual 309, 3) := by decide +kernel
theorem dX8_paste_5 : decode cX8_paste 5 = .ok (.ifCond .eq 11, 3) := by decide +kernel
theorem dX8_paste_8 : decode cX8_paste 8 = .ok (.aload_n 0, 1) := by decide +kernel
theorem dX8_paste_9 : decode cX8_paste 9 = .ok (.iload_n 3, 1) := by decide +kernel
theorem dX8_paste_10 : decode cX8_paste 10 = .ok (.invokevirtual 309, 3) := by decide +kernel
theorem dX8_paste_13 : decode cX8_paste 13 = .ok (.ifCond .ne 6, 3) := by decide +kernel
theorem dX8_paste_16 : decode cX8_paste 16 = .ok (.bipush (-2), 2) := by decide +kernel
theorem dX8_paste_18 : decode cX8_paste 18 = .ok (.ireturn, 1) := by decide +kernel
theorem dX8_paste_19 : decode cX8_paste 19 = .ok (.aload_n 0, 1) := by decide +kernel
theorem dX8_paste_20 : decode cX8_paste 20 = .ok (.getfield 42, 3) := by decide +kernel
theorem dX8_paste_23 : decode cX8_paste 23 = .ok (.iload_n 1, 1) := by decide +kernel
theorem dX8_paste_24 : decode cX8_paste 24 = .ok (.aaload, 1) := by decide +kernel
theorem dX8_paste_25 : decode cX8_paste 25 = .ok (.astore 6, 2) := by decide +kernel
theorem dX8_paste_27 : decode cX8_paste 27 = .ok (.aload_n 0, 1) := by decide +kernel
theorem dX8_paste_28 : decode cX8_paste 28 = .ok (.getfield 42, 3) := by decide +kernel
theorem dX8_paste_31 : decode cX8_paste 31 = .ok (.iload_n 3, 1) := by decide +kernel
theorem dX8_paste_32 : decode cX8_paste 32 = .ok (.aaload, 1) := by decide +kernel
theorem dX8_paste_33 : decode cX8_paste 33 = .ok (.astore 7, 2) := by decide +kernel
theorem dX8_paste_35 : decode cX8_paste 35 = .ok (.aload 6, 2) := by decide +kernel
theorem dX8_paste_37 : decode cX8_paste 37 = .ok (.getfield 312, 3) := by decide +kernel
theorem dX8_paste_40 : decode cX8_paste 40 = .ok (.ifCond .eq 11, 3) := by decide +kernel
theorem dX8_paste_43 : decode cX8_paste 43 = .ok (.aload 7, 2) := by decide +kernel
theorem dX8_paste_45 : decode cX8_paste 45 = .ok (.getfield 312, 3) := by decide +kernel
theorem dX8_paste_48 : decode cX8_paste 48 = .ok (.ifCond .ne 6, 3) := by decide +kernel
theorem dX8_paste_51 : decode cX8_paste 51 = .ok (.bipush (-6), 2) := by decide +kernel
theorem dX8_paste_53 : decode cX8_paste 53 = .ok (.ireturn, 1) := by decide +kernel
theorem dX8_paste_54 : decode cX8_paste 54 = .ok (.aload 6, 2) := by decide +kernel
theorem dX8_paste_56 : decode cX8_paste 56 = .ok (.getfield 338, 3) := by decide +kernel
theorem dX8_paste_59 : decode cX8_paste 59 = .ok (.aload 7, 2) := by decide +kernel
theorem dX8_paste_61 : decode cX8_paste 61 = .ok (.getfield 338, 3) := by decide +kernel
theorem dX8_paste_64 : decode cX8_paste 64 = .ok (.if_icmp .eq 6, 3) := by decide +kernel
theorem dX8_paste_67 : decode cX8_paste 67 = .ok (.bipush (-8), 2) := by decide +kernel
theorem dX8_paste_69 : decode cX8_paste 69 = .ok (.ireturn, 1) := by decide +kernel
theorem dX8_paste_70 : decode cX8_paste 70 = .ok (.aload 6, 2) := by decide +kernel
theorem dX8_paste_72 : decode cX8_paste 72 = .ok (.iload_n 2, 1) := by decide +kernel
theorem dX8_paste_73 : decode cX8_paste 73 = .ok (.iload 5, 2) := by decide +kernel
theorem dX8_paste_75 : decode cX8_paste 75 = .ok (.invokevirtual 341, 3) := by decide +kernel
theorem dX8_paste_78 : decode cX8_paste 78 = .ok (.ifCond .eq 15, 3) := by decide +kernel
theorem dX8_paste_81 : decode cX8_paste 81 = .ok (.aload 7, 2) := by decide +kernel
theorem dX8_paste_83 : decode cX8_paste 83 = .ok (.iload 4, 2) := by decide +kernel
theorem dX8_paste_85 : decode cX8_paste 85 = .ok (.iload 5, 2) := by decide +kernel
theorem dX8_paste_87 : decode cX8_paste 87 = .ok (.invokevirtual 341, 3) := by decide +kernel
theorem dX8_paste_90 : decode cX8_paste 90 = .ok (.ifCond .ne 6, 3) := by decide +kernel
theorem dX8_paste_93 : decode cX8_paste 93 = .ok (.bipush (-7), 2) := by decide +kernel
theorem dX8_paste_95 : decode cX8_paste 95 = .ok (.ireturn, 1) := by decide +kernel
theorem dX8_paste_96 : decode cX8_paste 96 = .ok (.aload 6, 2) := by decide +kernel
theorem dX8_paste_98 : decode cX8_paste 98 = .ok (.getfield 322, 3) := by decide +kernel
theorem dX8_paste_101 : decode cX8_paste 101 = .ok (.iload_n 2, 1) := by decide +kernel
theorem dX8_paste_102 : decode cX8_paste 102 = .ok (.aload 7, 2) := by decide +kernel
theorem dX8_paste_104 : decode cX8_paste 104 = .ok (.getfield 322, 3) := by decide +kernel
theorem dX8_paste_107 : decode cX8_paste 107 = .ok (.iload 4, 2) := by decide +kernel
theorem dX8_paste_109 : decode cX8_paste 109 = .ok (.iload 5, 2) := by decide +kernel
theorem dX8_paste_111 : decode cX8_paste 111 = .ok (.invokestatic 344, 3) := by decide +kernel
theorem dX8_paste_114 : decode cX8_paste 114 = .ok (.iconst 0, 1) := by decide +kernel
theorem dX8_paste_115 : decode cX8_paste 115 = .ok (.ireturn, 1) := by decide +kernel
theorem dX8_noTown_0 : decode cX8_noTown 0 = .ok (.aload_n 0, 1) := by decide +kernel
theorem dX8_noTown_1 : decode cX8_noTown 1 = .ok (.getfield 28, 3) := by decide +kernel
theorem dX8_noTown_4 : decode cX8_noTown 4 = .ok (.getfield 119, 3) := by decide +kernel
theorem dX8_noTown_7 : decode cX8_noTown 7 = .ok (.ifCond .ne 7, 3) := by decide +kernel
theorem dX8_noTown_10 : decode cX8_noTown 10 = .ok (.iconst 1, 1) := by decide +kernel
theorem dX8_noTown_11 : decode cX8_noTown 11 = .ok (.goto 4, 3) := by decide +kernel
theorem dX8_noTown_14 : decode cX8_noTown 14 = .ok (.iconst 0, 1) := by decide +kernel
theorem dX8_noTown_15 : decode cX8_noTown 15 = .ok (.ireturn, 1) := by decide +kernel
theorem dX8_isSeed_0 : decode cX8_isSeed 0 = .ok (.iload_n 1, 1) := by decide +kernel
theorem dX8_isSeed_1 : decode cX8_isSeed 1 = .ok (.ifCond .lt 14, 3) := by decide +kernel
theorem dX8_isSeed_4 : decode cX8_isSeed 4 = .ok (.iload_n 1, 1) := by decide +kernel
theorem dX8_isSeed_5 : decode cX8_isSeed 5 = .ok (.ldc_w 350, 3) := by decide +kernel
theorem dX8_isSeed_8 : decode cX8_isSeed 8 = .ok (.if_icmp .gt 7, 3) := by decide +kernel
theorem dX8_isSeed_11 : decode cX8_isSeed 11 = .ok (.iconst 1, 1) := by decide +kernel
theorem dX8_isSeed_12 : decode cX8_isSeed 12 = .ok (.goto 4, 3) := by decide +kernel
theorem dX8_isSeed_15 : decode cX8_isSeed 15 = .ok (.iconst 0, 1) := by decide +kernel
theorem dX8_isSeed_16 : decode cX8_isSeed 16 = .ok (.ireturn, 1) := by decide +kernel
theorem dX8_isVisit_0 : decode cX8_isVisit 0 = .ok (.iload_n 1, 1) := by decide +kernel
theorem dX8_isVisit_1 : decode cX8_isVisit 1 = .ok (.ifCond .lt 13, 3) := by decide +kernel
theorem dX8_isVisit_4 : decode cX8_isVisit 4 = .ok (.iload_n 1, 1) := by decide +kernel
theorem dX8_isVisit_5 : decode cX8_isVisit 5 = .ok (.bipush 24, 2) := by decide +kernel
theorem dX8_isVisit_7 : decode cX8_isVisit 7 = .ok (.if_icmp .gt 7, 3) := by decide +kernel
theorem dX8_isVisit_10 : decode cX8_isVisit 10 = .ok (.iconst 1, 1) := by decide +kernel
theorem dX8_isVisit_11 : decode cX8_isVisit 11 = .ok (.goto 4, 3) := by decide +kernel
theorem dX8_isVisit_14 : decode cX8_isVisit 14 = .ok (.iconst 0, 1) := by decide +kernel
theorem dX8_isVisit_15 : decode cX8_isVisit 15 = .ok (.ireturn, 1) := by decide +kernel
theorem dX8_isSlot_0 : decode cX8_isSlot 0 = .ok (.iload_n 1, 1) := by decide +kernel
theorem dX8_isSlot_1 : decode cX8_isSlot 1 = .ok (.ifCond .lt 12, 3) := by decide +kernel
theorem dX8_isSlot_4 : decode cX8_isSlot 4 = .ok (.iload_n 1, 1) := by decide +kernel
theorem dX8_isSlot_5 : decode cX8_isSlot 5 = .ok (.iconst 4, 1) := by decide +kernel
theorem dX8_isSlot_6 : decode cX8_isSlot 6 = .ok (.if_icmp .ge 7, 3) := by decide +kernel
theorem dX8_isSlot_9 : decode cX8_isSlot 9 = .ok (.iconst 1, 1) := by decide +kernel
theorem dX8_isSlot_10 : decode cX8_isSlot 10 = .ok (.goto 4, 3) := by decide +kernel
theorem dX8_isSlot_13 : decode cX8_isSlot 13 = .ok (.iconst 0, 1) := by decide +kernel
theorem dX8_isSlot_14 : decode cX8_isSlot 14 = .ok (.ireturn, 1) := by decide +kernel
theorem dX8_isLetterMore_0 : decode cX8_isLetterMore 0 = .ok (.aload_n 0, 1) := by decide +kernel
theorem dX8_isLetterMore_1 : decode cX8_isLetterMore 1 = .ok (.getfield 28, 3) := by decide +kernel
theorem dX8_isLetterMore_4 : decode cX8_isLetterMore 4 = .ok (.iload_n 1, 1) := by decide +kernel
theorem dX8_isLetterMore_5 : decode cX8_isLetterMore 5 = .ok (.invokevirtual 128, 3) := by decide +kernel
theorem dX8_isLetterMore_8 : decode cX8_isLetterMore 8 = .ok (.ifCond .eq 34, 3) := by decide +kernel
theorem dX8_isLetterMore_11 : decode cX8_isLetterMore 11 = .ok (.aload_n 0, 1) := by decide +kernel
theorem dX8_isLetterMore_12 : decode cX8_isLetterMore 12 = .ok (.getfield 28, 3) := by decide +kernel
theorem dX8_isLetterMore_15 : decode cX8_isLetterMore 15 = .ok (.iload_n 2, 1) := by decide +kernel
theorem dX8_isLetterMore_16 : decode cX8_isLetterMore 16 = .ok (.invokevirtual 128, 3) := by decide +kernel
theorem dX8_isLetterMore_19 : decode cX8_isLetterMore 19 = .ok (.ifCond .eq 23, 3) := by decide +kernel
theorem dX8_isLetterMore_22 : decode cX8_isLetterMore 22 = .ok (.iload_n 1, 1) := by decide +kernel
theorem dX8_isLetterMore_23 : decode cX8_isLetterMore 23 = .ok (.iload_n 2, 1) := by decide +kernel
theorem dX8_isLetterMore_24 : decode cX8_isLetterMore 24 = .ok (.if_icmp .eq 18, 3) := by decide +kernel
theorem dX8_isLetterMore_27 : decode cX8_isLetterMore 27 = .ok (.aload_n 0, 1) := by decide +kernel
theorem dX8_isLetterMore_28 : decode cX8_isLetterMore 28 = .ok (.getfield 28, 3) := by decide +kernel
theorem dX8_isLetterMore_31 : decode cX8_isLetterMore 31 = .ok (.iload_n 3, 1) := by decide +kernel
theorem dX8_isLetterMore_32 : decode cX8_isLetterMore 32 = .ok (.invokevirtual 187, 3) := by decide +kernel
theorem dX8_isLetterMore_35 : decode cX8_isLetterMore 35 = .ok (.ifCond .eq 7, 3) := by decide +kernel
theorem dX8_isLetterMore_38 : decode cX8_isLetterMore 38 = .ok (.iconst 1, 1) := by decide +kernel
theorem dX8_isLetterMore_39 : decode cX8_isLetterMore 39 = .ok (.goto 4, 3) := by decide +kernel
theorem dX8_isLetterMore_42 : decode cX8_isLetterMore 42 = .ok (.iconst 0, 1) := by decide +kernel
theorem dX8_isLetterMore_43 : decode cX8_isLetterMore 43 = .ok (.ireturn, 1) := by decide +kernel
theorem dX8_usedSlots_0 : decode cX8_usedSlots 0 = .ok (.iconst 0, 1) := by decide +kernel
theorem dX8_usedSlots_1 : decode cX8_usedSlots 1 = .ok (.istore_n 1, 1) := by decide +kernel
theorem dX8_usedSlots_2 : decode cX8_usedSlots 2 = .ok (.iconst 0, 1) := by decide +kernel
theorem dX8_usedSlots_3 : decode cX8_usedSlots 3 = .ok (.istore_n 2, 1) := by decide +kernel
theorem dX8_usedSlots_4 : decode cX8_usedSlots 4 = .ok (.iload_n 2, 1) := by decide +kernel
theorem dX8_usedSlots_5 : decode cX8_usedSlots 5 = .ok (.iconst 4, 1) := by decide +kernel
theorem dX8_usedSlots_6 : decode cX8_usedSlots 6 = .ok (.if_icmp .ge 29, 3) := by decide +kernel
theorem dX8_usedSlots_9 : decode cX8_usedSlots 9 = .ok (.iload_n 1, 1) := by decide +kernel
theorem dX8_usedSlots_10 : decode cX8_usedSlots 10 = .ok (.aload_n 0, 1) := by decide +kernel
theorem dX8_usedSlots_11 : decode cX8_usedSlots 11 = .ok (.getfield 42, 3) := by decide +kernel
theorem dX8_usedSlots_14 : decode cX8_usedSlots 14 = .ok (.iload_n 2, 1) := by decide +kernel
theorem dX8_usedSlots_15 : decode cX8_usedSlots 15 = .ok (.aaload, 1) := by decide +kernel
theorem dX8_usedSlots_16 : decode cX8_usedSlots 16 = .ok (.getfield 312, 3) := by decide +kernel
theorem dX8_usedSlots_19 : decode cX8_usedSlots 19 = .ok (.ifCond .eq 7, 3) := by decide +kernel
theorem dX8_usedSlots_22 : decode cX8_usedSlots 22 = .ok (.iconst 1, 1) := by decide +kernel
theorem dX8_usedSlots_23 : decode cX8_usedSlots 23 = .ok (.goto 4, 3) := by decide +kernel
theorem dX8_usedSlots_26 : decode cX8_usedSlots 26 = .ok (.iconst 0, 1) := by decide +kernel
theorem dX8_usedSlots_27 : decode cX8_usedSlots 27 = .ok (.iadd, 1) := by decide +kernel
theorem dX8_usedSlots_28 : decode cX8_usedSlots 28 = .ok (.istore_n 1, 1) := by decide +kernel
theorem dX8_usedSlots_29 : decode cX8_usedSlots 29 = .ok (.iinc 2 1, 3) := by decide +kernel
theorem dX8_usedSlots_32 : decode cX8_usedSlots 32 = .ok (.goto (-28), 3) := by decide +kernel
theorem dX8_usedSlots_35 : decode cX8_usedSlots 35 = .ok (.iload_n 1, 1) := by decide +kernel
theorem dX8_usedSlots_36 : decode cX8_usedSlots 36 = .ok (.ireturn, 1) := by decide +kernel
theorem dX8_changed_0 : decode cX8_changed 0 = .ok (.aload_n 0, 1) := by decide +kernel
theorem dX8_changed_1 : decode cX8_changed 1 = .ok (.iconst 0, 1) := by decide +kernel
theorem dX8_changed_2 : decode cX8_changed 2 = .ok (.putfield 83, 3) := by decide +kernel
theorem dX8_changed_5 : decode cX8_changed 5 = .ok (.aload_n 0, 1) := by decide +kernel
theorem dX8_changed_6 : decode cX8_changed 6 = .ok (.iconst 0, 1) := by decide +kernel
theorem dX8_changed_7 : decode cX8_changed 7 = .ok (.putfield 87, 3) := by decide +kernel
theorem dX8_changed_10 : decode cX8_changed 10 = .ok (.aload_n 0, 1) := by decide +kernel
theorem dX8_changed_11 : decode cX8_changed 11 = .ok (.getfield 75, 3) := by decide +kernel
theorem dX8_changed_14 : decode cX8_changed 14 = .ok (.iconst 0, 1) := by decide +kernel
theorem dX8_changed_15 : decode cX8_changed 15 = .ok (.putfield 351, 3) := by decide +kernel
theorem dX8_changed_18 : decode cX8_changed 18 = .ok (.return_, 1) := by decide +kernel
theorem dX8_asItIs_0 : decode cX8_asItIs 0 = .ok (.aload_n 0, 1) := by decide +kernel
theorem dX8_asItIs_1 : decode cX8_asItIs 1 = .ok (.getfield 83, 3) := by decide +kernel
theorem dX8_asItIs_4 : decode cX8_asItIs 4 = .ok (.ifCond .ne 30, 3) := by decide +kernel
theorem dX8_asItIs_7 : decode cX8_asItIs 7 = .ok (.aload_n 0, 1) := by decide +kernel
theorem dX8_asItIs_8 : decode cX8_asItIs 8 = .ok (.getfield 68, 3) := by decide +kernel
theorem dX8_asItIs_11 : decode cX8_asItIs 11 = .ok (.aload_n 0, 1) := by decide +kernel
theorem dX8_asItIs_12 : decode cX8_asItIs 12 = .ok (.getfield 28, 3) := by decide +kernel
theorem dX8_asItIs_15 : decode cX8_asItIs 15 = .ok (.invokevirtual 245, 3) := by decide +kernel
theorem dX8_asItIs_18 : decode cX8_asItIs 18 = .ok (.aload_n 0, 1) := by decide +kernel
theorem dX8_asItIs_19 : decode cX8_asItIs 19 = .ok (.getfield 58, 3) := by decide +kernel
theorem dX8_asItIs_22 : decode cX8_asItIs 22 = .ok (.aload_n 0, 1) := by decide +kernel
theorem dX8_asItIs_23 : decode cX8_asItIs 23 = .ok (.getfield 68, 3) := by decide +kernel
theorem dX8_asItIs_26 : decode cX8_asItIs 26 = .ok (.invokevirtual 252, 3) := by decide +kernel
theorem dX8_asItIs_29 : decode cX8_asItIs 29 = .ok (.aload_n 0, 1) := by decide +kernel
theorem dX8_asItIs_30 : decode cX8_asItIs 30 = .ok (.iconst 1, 1) := by decide +kernel
theorem dX8_asItIs_31 : decode cX8_asItIs 31 = .ok (.putfield 83, 3) := by decide +kernel
theorem dX8_asItIs_34 : decode cX8_asItIs 34 = .ok (.aload_n 0, 1) := by decide +kernel
theorem dX8_asItIs_35 : decode cX8_asItIs 35 = .ok (.getfield 58, 3) := by decide +kernel
theorem dX8_asItIs_38 : decode cX8_asItIs 38 = .ok (.areturn, 1) := by decide +kernel
theorem dX8_findOrders_0 : decode cX8_findOrders 0 = .ok (.aload_n 0, 1) := by decide +kernel
theorem dX8_findOrders_1 : decode cX8_findOrders 1 = .ok (.getfield 28, 3) := by decide +kernel
theorem dX8_findOrders_4 : decode cX8_findOrders 4 = .ok (.iload_n 1, 1) := by decide +kernel
theorem dX8_findOrders_5 : decode cX8_findOrders 5 = .ok (.invokevirtual 128, 3) := by decide +kernel
theorem dX8_findOrders_8 : decode cX8_findOrders 8 = .ok (.ifCond .eq 14, 3) := by decide +kernel
theorem dX8_findOrders_11 : decode cX8_findOrders 11 = .ok (.aload_n 0, 1) := by decide +kernel
theorem dX8_findOrders_12 : decode cX8_findOrders 12 = .ok (.getfield 28, 3) := by decide +kernel
theorem dX8_findOrders_15 : decode cX8_findOrders 15 = .ok (.iload_n 2, 1) := by decide +kernel
theorem dX8_findOrders_16 : decode cX8_findOrders 16 = .ok (.invokevirtual 187, 3) := by decide +kernel
theorem dX8_findOrders_19 : decode cX8_findOrders 19 = .ok (.ifCond .ne 6, 3) := by decide +kernel
theorem dX8_findOrders_22 : decode cX8_findOrders 22 = .ok (.bipush (-2), 2) := by decide +kernel
theorem dX8_findOrders_24 : decode cX8_findOrders 24 = .ok (.ireturn, 1) := by decide +kernel
theorem dX8_findOrders_25 : decode cX8_findOrders 25 = .ok (.aload_n 0, 1) := by decide +kernel
theorem dX8_findOrders_26 : decode cX8_findOrders 26 = .ok (.getfield 75, 3) := by decide +kernel
theorem dX8_findOrders_29 : decode cX8_findOrders 29 = .ok (.getfield 351, 3) := by decide +kernel
theorem dX8_findOrders_32 : decode cX8_findOrders 32 = .ok (.ifCond .eq 27, 3) := by decide +kernel
theorem dX8_findOrders_35 : decode cX8_findOrders 35 = .ok (.aload_n 0, 1) := by decide +kernel
theorem dX8_findOrders_36 : decode cX8_findOrders 36 = .ok (.getfield 75, 3) := by decide +kernel
theorem dX8_findOrders_39 : decode cX8_findOrders 39 = .ok (.getfield 354, 3) := by decide +kernel
theorem dX8_findOrders_42 : decode cX8_findOrders 42 = .ok (.iload_n 1, 1) := by decide +kernel
theorem dX8_findOrders_43 : decode cX8_findOrders 43 = .ok (.if_icmp .ne 16, 3) := by decide +kernel
theorem dX8_findOrders_46 : decode cX8_findOrders 46 = .ok (.aload_n 0, 1) := by decide +kernel
theorem dX8_findOrders_47 : decode cX8_findOrders 47 = .ok (.getfield 75, 3) := by decide +kernel
theorem dX8_findOrders_50 : decode cX8_findOrders 50 = .ok (.getfield 357, 3) := by decide +kernel
theorem dX8_findOrders_53 : decode cX8_findOrders 53 = .ok (.iload_n 2, 1) := by decide +kernel
theorem dX8_findOrders_54 : decode cX8_findOrders 54 = .ok (.if_icmp .ne 5, 3) := by decide +kernel
theorem dX8_findOrders_57 : decode cX8_findOrders 57 = .ok (.iconst 0, 1) := by decide +kernel
theorem dX8_findOrders_58 : decode cX8_findOrders 58 = .ok (.ireturn, 1) := by decide +kernel
theorem dX8_findOrders_59 : decode cX8_findOrders 59 = .ok (.aload_n 0, 1) := by decide +kernel
theorem dX8_findOrders_60 : decode cX8_findOrders 60 = .ok (.getfield 75, 3) := by decide +kernel
theorem dX8_findOrders_63 : decode cX8_findOrders 63 = .ok (.iconst 0, 1) := by decide +kernel
theorem dX8_findOrders_64 : decode cX8_findOrders 64 = .ok (.putfield 351, 3) := by decide +kernel
theorem dX8_findOrders_67 : decode cX8_findOrders 67 = .ok (.aload_n 0, 1) := by decide +kernel
theorem dX8_findOrders_68 : decode cX8_findOrders 68 = .ok (.getfield 75, 3) := by decide +kernel
theorem dX8_findOrders_71 : decode cX8_findOrders 71 = .ok (.aload_n 0, 1) := by decide +kernel
theorem dX8_findOrders_72 : decode cX8_findOrders 72 = .ok (.getfield 28, 3) := by decide +kernel
theorem dX8_findOrders_75 : decode cX8_findOrders 75 = .ok (.iload_n 1, 1) := by decide +kernel
theorem dX8_findOrders_76 : decode cX8_findOrders 76 = .ok (.iload_n 2, 1) := by decide +kernel
theorem dX8_findOrders_77 : decode cX8_findOrders 77 = .ok (.invokevirtual 360, 3) := by decide +kernel
theorem dX8_findOrders_80 : decode cX8_findOrders 80 = .ok (.ifCond .ne 6, 3) := by decide +kernel
theorem dX8_findOrders_83 : decode cX8_findOrders 83 = .ok (.bipush (-3), 2) := by decide +kernel
theorem dX8_findOrders_85 : decode cX8_findOrders 85 = .ok (.ireturn, 1) := by decide +kernel
theorem dX8_findOrders_86 : decode cX8_findOrders 86 = .ok (.aload_n 0, 1) := by decide +kernel
theorem dX8_findOrders_87 : decode cX8_findOrders 87 = .ok (.getfield 68, 3) := by decide +kernel
theorem dX8_findOrders_90 : decode cX8_findOrders 90 = .ok (.aload_n 0, 1) := by decide +kernel
theorem dX8_findOrders_91 : decode cX8_findOrders 91 = .ok (.getfield 28, 3) := by decide +kernel
theorem dX8_findOrders_94 : decode cX8_findOrders 94 = .ok (.invokevirtual 245, 3) := by decide +kernel
theorem dX8_findOrders_97 : decode cX8_findOrders 97 = .ok (.iconst 1, 1) := by decide +kernel
theorem dX8_findOrders_98 : decode cX8_findOrders 98 = .ok (.istore_n 3, 1) := by decide +kernel
theorem dX8_findOrders_99 : decode cX8_findOrders 99 = .ok (.iconst 0, 1) := by decide +kernel
theorem dX8_findOrders_100 : decode cX8_findOrders 100 = .ok (.istore 4, 2) := by decide +kernel
theorem dX8_findOrders_102 : decode cX8_findOrders 102 = .ok (.iload_n 3, 1) := by decide +kernel
theorem dX8_findOrders_103 : decode cX8_findOrders 103 = .ok (.ifCond .eq 65, 3) := by decide +kernel
theorem dX8_findOrders_106 : decode cX8_findOrders 106 = .ok (.iload 4, 2) := by decide +kernel
theorem dX8_findOrders_108 : decode cX8_findOrders 108 = .ok (.sipush 720, 3) := by decide +kernel
theorem dX8_findOrders_111 : decode cX8_findOrders 111 = .ok (.if_icmp .ge 57, 3) := by decide +kernel
theorem dX8_findOrders_114 : decode cX8_findOrders 114 = .ok (.aload_n 0, 1) := by decide +kernel
theorem dX8_findOrders_115 : decode cX8_findOrders 115 = .ok (.getfield 75, 3) := by decide +kernel
theorem dX8_findOrders_118 : decode cX8_findOrders 118 = .ok (.aload_n 0, 1) := by decide +kernel
theorem dX8_findOrders_119 : decode cX8_findOrders 119 = .ok (.getfield 68, 3) := by decide +kernel
theorem dX8_findOrders_122 : decode cX8_findOrders 122 = .ok (.invokevirtual 364, 3) := by decide +kernel
theorem dX8_findOrders_125 : decode cX8_findOrders 125 = .ok (.aload_n 0, 1) := by decide +kernel
theorem dX8_findOrders_126 : decode cX8_findOrders 126 = .ok (.getfield 62, 3) := by decide +kernel
theorem dX8_findOrders_129 : decode cX8_findOrders 129 = .ok (.aload_n 0, 1) := by decide +kernel
theorem dX8_findOrders_130 : decode cX8_findOrders 130 = .ok (.getfield 68, 3) := by decide +kernel
theorem dX8_findOrders_133 : decode cX8_findOrders 133 = .ok (.invokevirtual 252, 3) := by decide +kernel
theorem dX8_findOrders_136 : decode cX8_findOrders 136 = .ok (.aload_n 0, 1) := by decide +kernel
theorem dX8_findOrders_137 : decode cX8_findOrders 137 = .ok (.getfield 75, 3) := by decide +kernel
theorem dX8_findOrders_140 : decode cX8_findOrders 140 = .ok (.aload_n 0, 1) := by decide +kernel
theorem dX8_findOrders_141 : decode cX8_findOrders 141 = .ok (.getfield 62, 3) := by decide +kernel
theorem dX8_findOrders_144 : decode cX8_findOrders 144 = .ok (.aload_n 0, 1) := by decide +kernel
theorem dX8_findOrders_145 : decode cX8_findOrders 145 = .ok (.getfield 28, 3) := by decide +kernel
theorem dX8_findOrders_148 : decode cX8_findOrders 148 = .ok (.invokevirtual 219, 3) := by decide +kernel
theorem dX8_findOrders_151 : decode cX8_findOrders 151 = .ok (.invokevirtual 367, 3) := by decide +kernel
theorem dX8_findOrders_154 : decode cX8_findOrders 154 = .ok (.aload_n 0, 1) := by decide +kernel
theorem dX8_findOrders_155 : decode cX8_findOrders 155 = .ok (.getfield 75, 3) := by decide +kernel
theorem dX8_findOrders_158 : decode cX8_findOrders 158 = .ok (.invokevirtual 370, 3) := by decide +kernel
theorem dX8_findOrders_161 : decode cX8_findOrders 161 = .ok (.istore_n 3, 1) := by decide +kernel
theorem dX8_findOrders_162 : decode cX8_findOrders 162 = .ok (.iinc 4 1, 3) := by decide +kernel
theorem dX8_findOrders_165 : decode cX8_findOrders 165 = .ok (.goto (-63), 3) := by decide +kernel
theorem dX8_findOrders_168 : decode cX8_findOrders 168 = .ok (.aload_n 0, 1) := by decide +kernel
theorem dX8_findOrders_169 : decode cX8_findOrders 169 = .ok (.getfield 75, 3) := by decide +kernel
theorem dX8_findOrders_172 : decode cX8_findOrders 172 = .ok (.iconst 1, 1) := by decide +kernel
theorem dX8_findOrders_173 : decode cX8_findOrders 173 = .ok (.putfield 351, 3) := by decide +kernel
theorem dX8_findOrders_176 : decode cX8_findOrders 176 = .ok (.iconst 0, 1) := by decide +kernel
theorem dX8_findOrders_177 : decode cX8_findOrders 177 = .ok (.ireturn, 1) := by decide +kernel
theorem dX8_listUnanswered_0 : decode cX8_listUnanswered 0 = .ok (.iconst 0, 1) := by decide +kernel
theorem dX8_listUnanswered_1 : decode cX8_listUnanswered 1 = .ok (.istore_n 2, 1) := by decide +kernel
theorem dX8_listUnanswered_2 : decode cX8_listUnanswered 2 = .ok (.iconst 0, 1) := by decide +kernel
theorem dX8_listUnanswered_3 : decode cX8_listUnanswered 3 = .ok (.istore_n 3, 1) := by decide +kernel
theorem dX8_listUnanswered_4 : decode cX8_listUnanswered 4 = .ok (.iload_n 3, 1) := by decide +kernel
theorem dX8_listUnanswered_5 : decode cX8_listUnanswered 5 = .ok (.aload_n 0, 1) := by decide +kernel
theorem dX8_listUnanswered_6 : decode cX8_listUnanswered 6 = .ok (.getfield 28, 3) := by decide +kernel
theorem dX8_listUnanswered_9 : decode cX8_listUnanswered 9 = .ok (.getfield 226, 3) := by decide +kernel
theorem dX8_listUnanswered_12 : decode cX8_listUnanswered 12 = .ok (.if_icmp .ge 35, 3) := by decide +kernel
theorem dX8_listUnanswered_15 : decode cX8_listUnanswered 15 = .ok (.aload_n 1, 1) := by decide +kernel
theorem dX8_listUnanswered_16 : decode cX8_listUnanswered 16 = .ok (.getfield 181, 3) := by decide +kernel
theorem dX8_listUnanswered_19 : decode cX8_listUnanswered 19 = .ok (.iload_n 3, 1) := by decide +kernel
theorem dX8_listUnanswered_20 : decode cX8_listUnanswered 20 = .ok (.iaload, 1) := by decide +kernel
theorem dX8_listUnanswered_21 : decode cX8_listUnanswered 21 = .ok (.iconst (-1), 1) := by decide +kernel
theorem dX8_listUnanswered_22 : decode cX8_listUnanswered 22 = .ok (.if_icmp .ne 19, 3) := by decide +kernel
theorem dX8_listUnanswered_25 : decode cX8_listUnanswered 25 = .ok (.iload_n 2, 1) := by decide +kernel
theorem dX8_listUnanswered_26 : decode cX8_listUnanswered 26 = .ok (.bipush 12, 2) := by decide +kernel
theorem dX8_listUnanswered_28 : decode cX8_listUnanswered 28 = .ok (.if_icmp .ge 13, 3) := by decide +kernel
theorem dX8_listUnanswered_31 : decode cX8_listUnanswered 31 = .ok (.aload_n 0, 1) := by decide +kernel
theorem dX8_listUnanswered_32 : decode cX8_listUnanswered 32 = .ok (.getfield 79, 3) := by decide +kernel
theorem dX8_listUnanswered_35 : decode cX8_listUnanswered 35 = .ok (.iload_n 2, 1) := by decide +kernel
theorem dX8_listUnanswered_36 : decode cX8_listUnanswered 36 = .ok (.iload_n 3, 1) := by decide +kernel
theorem dX8_listUnanswered_37 : decode cX8_listUnanswered 37 = .ok (.iastore, 1) := by decide +kernel
theorem dX8_listUnanswered_38 : decode cX8_listUnanswered 38 = .ok (.iinc 2 1, 3) := by decide +kernel
theorem dX8_listUnanswered_41 : decode cX8_listUnanswered 41 = .ok (.iinc 3 1, 3) := by decide +kernel
theorem dX8_listUnanswered_44 : decode cX8_listUnanswered 44 = .ok (.goto (-40), 3) := by decide +kernel
theorem dX8_listUnanswered_47 : decode cX8_listUnanswered 47 = .ok (.return_, 1) := by decide +kernel
theorem dX8_leastUntying_0 : decode cX8_leastUntying 0 = .ok (.aload_n 0, 1) := by decide +kernel
theorem dX8_leastUntying_1 : decode cX8_leastUntying 1 = .ok (.getfield 68, 3) := by decide +kernel
theorem dX8_leastUntying_4 : decode cX8_leastUntying 4 = .ok (.aload_n 0, 1) := by decide +kernel
theorem dX8_leastUntying_5 : decode cX8_leastUntying 5 = .ok (.getfield 28, 3) := by decide +kernel
theorem dX8_leastUntying_8 : decode cX8_leastUntying 8 = .ok (.invokevirtual 245, 3) := by decide +kernel
theorem dX8_leastUntying_11 : decode cX8_leastUntying 11 = .ok (.iconst 0, 1) := by decide +kernel
theorem dX8_leastUntying_12 : decode cX8_leastUntying 12 = .ok (.istore_n 2, 1) := by decide +kernel
theorem dX8_leastUntying_13 : decode cX8_leastUntying 13 = .ok (.iload_n 2, 1) := by decide +kernel
theorem dX8_leastUntying_14 : decode cX8_leastUntying 14 = .ok (.iload_n 1, 1) := by decide +kernel
theorem dX8_leastUntying_15 : decode cX8_leastUntying 15 = .ok (.if_icmp .gt 64, 3) := by decide +kernel
theorem dX8_leastUntying_18 : decode cX8_leastUntying 18 = .ok (.iconst 0, 1) := by decide +kernel
theorem dX8_leastUntying_19 : decode cX8_leastUntying 19 = .ok (.istore_n 3, 1) := by decide +kernel
theorem dX8_leastUntying_20 : decode cX8_leastUntying 20 = .ok (.iload_n 3, 1) := by decide +kernel
theorem dX8_leastUntying_21 : decode cX8_leastUntying 21 = .ok (.iconst 1, 1) := by decide +kernel
theorem dX8_leastUntying_22 : decode cX8_leastUntying 22 = .ok (.iload_n 1, 1) := by decide +kernel
theorem dX8_leastUntying_23 : decode cX8_leastUntying 23 = .ok (.ishl, 1) := by decide +kernel
theorem dX8_leastUntying_24 : decode cX8_leastUntying 24 = .ok (.if_icmp .ge 49, 3) := by decide +kernel
theorem dX8_leastUntying_27 : decode cX8_leastUntying 27 = .ok (.iload_n 3, 1) := by decide +kernel
theorem dX8_leastUntying_28 : decode cX8_leastUntying 28 = .ok (.invokestatic 256, 3) := by decide +kernel
theorem dX8_leastUntying_31 : decode cX8_leastUntying 31 = .ok (.iload_n 2, 1) := by decide +kernel
theorem dX8_leastUntying_32 : decode cX8_leastUntying 32 = .ok (.if_icmp .ne 35, 3) := by decide +kernel
theorem dX8_leastUntying_35 : decode cX8_leastUntying 35 = .ok (.aload_n 0, 1) := by decide +kernel
theorem dX8_leastUntying_36 : decode cX8_leastUntying 36 = .ok (.iload_n 3, 1) := by decide +kernel
theorem dX8_leastUntying_37 : decode cX8_leastUntying 37 = .ok (.iload_n 1, 1) := by decide +kernel
theorem dX8_leastUntying_38 : decode cX8_leastUntying 38 = .ok (.invokevirtual 373, 3) := by decide +kernel
theorem dX8_leastUntying_41 : decode cX8_leastUntying 41 = .ok (.istore 4, 2) := by decide +kernel
theorem dX8_leastUntying_43 : decode cX8_leastUntying 43 = .ok (.aload_n 0, 1) := by decide +kernel
theorem dX8_leastUntying_44 : decode cX8_leastUntying 44 = .ok (.getfield 62, 3) := by decide +kernel
theorem dX8_leastUntying_47 : decode cX8_leastUntying 47 = .ok (.aload_n 0, 1) := by decide +kernel
theorem dX8_leastUntying_48 : decode cX8_leastUntying 48 = .ok (.getfield 68, 3) := by decide +kernel
theorem dX8_leastUntying_51 : decode cX8_leastUntying 51 = .ok (.invokevirtual 252, 3) := by decide +kernel
theorem dX8_leastUntying_54 : decode cX8_leastUntying 54 = .ok (.aload_n 0, 1) := by decide +kernel
theorem dX8_leastUntying_55 : decode cX8_leastUntying 55 = .ok (.getfield 62, 3) := by decide +kernel
theorem dX8_leastUntying_58 : decode cX8_leastUntying 58 = .ok (.invokevirtual 211, 3) := by decide +kernel
theorem dX8_leastUntying_61 : decode cX8_leastUntying 61 = .ok (.ifCond .ne 6, 3) := by decide +kernel
theorem dX8_leastUntying_64 : decode cX8_leastUntying 64 = .ok (.iload 4, 2) := by decide +kernel
theorem dX8_leastUntying_66 : decode cX8_leastUntying 66 = .ok (.ireturn, 1) := by decide +kernel
theorem dX8_leastUntying_67 : decode cX8_leastUntying 67 = .ok (.iinc 3 1, 3) := by decide +kernel
theorem dX8_leastUntying_70 : decode cX8_leastUntying 70 = .ok (.goto (-50), 3) := by decide +kernel
theorem dX8_leastUntying_73 : decode cX8_leastUntying 73 = .ok (.iinc 2 1, 3) := by decide +kernel
theorem dX8_leastUntying_76 : decode cX8_leastUntying 76 = .ok (.goto (-63), 3) := by decide +kernel
theorem dX8_leastUntying_79 : decode cX8_leastUntying 79 = .ok (.iconst (-1), 1) := by decide +kernel
theorem dX8_leastUntying_80 : decode cX8_leastUntying 80 = .ok (.ireturn, 1) := by decide +kernel
theorem dX8_leaveOut_0 : decode cX8_leaveOut 0 = .ok (.iconst 0, 1) := by decide +kernel
theorem dX8_leaveOut_1 : decode cX8_leaveOut 1 = .ok (.istore_n 3, 1) := by decide +kernel
theorem dX8_leaveOut_2 : decode cX8_leaveOut 2 = .ok (.iconst 0, 1) := by decide +kernel
theorem dX8_leaveOut_3 : decode cX8_leaveOut 3 = .ok (.istore 4, 2) := by decide +kernel
theorem dX8_leaveOut_5 : decode cX8_leaveOut 5 = .ok (.iload 4, 2) := by decide +kernel
theorem dX8_leaveOut_7 : decode cX8_leaveOut 7 = .ok (.iload_n 2, 1) := by decide +kernel
theorem dX8_leaveOut_8 : decode cX8_leaveOut 8 = .ok (.if_icmp .ge 89, 3) := by decide +kernel
theorem dX8_leaveOut_11 : decode cX8_leaveOut 11 = .ok (.iload 4, 2) := by decide +kernel
theorem dX8_leaveOut_13 : decode cX8_leaveOut 13 = .ok (.bipush 12, 2) := by decide +kernel
theorem dX8_leaveOut_15 : decode cX8_leaveOut 15 = .ok (.if_icmp .ge 82, 3) := by decide +kernel
theorem dX8_leaveOut_18 : decode cX8_leaveOut 18 = .ok (.aload_n 0, 1) := by decide +kernel
theorem dX8_leaveOut_19 : decode cX8_leaveOut 19 = .ok (.getfield 79, 3) := by decide +kernel
theorem dX8_leaveOut_22 : decode cX8_leaveOut 22 = .ok (.iload 4, 2) := by decide +kernel
theorem dX8_leaveOut_24 : decode cX8_leaveOut 24 = .ok (.iaload, 1) := by decide +kernel
theorem dX8_leaveOut_25 : decode cX8_leaveOut 25 = .ok (.istore 5, 2) := by decide +kernel
theorem dX8_leaveOut_27 : decode cX8_leaveOut 27 = .ok (.iload_n 1, 1) := by decide +kernel
theorem dX8_leaveOut_28 : decode cX8_leaveOut 28 = .ok (.iload 4, 2) := by decide +kernel
theorem dX8_leaveOut_30 : decode cX8_leaveOut 30 = .ok (.ishr, 1) := by decide +kernel
theorem dX8_leaveOut_31 : decode cX8_leaveOut 31 = .ok (.iconst 1, 1) := by decide +kernel
theorem dX8_leaveOut_32 : decode cX8_leaveOut 32 = .ok (.iand, 1) := by decide +kernel
theorem dX8_leaveOut_33 : decode cX8_leaveOut 33 = .ok (.ifCond .eq 7, 3) := by decide +kernel
theorem dX8_leaveOut_36 : decode cX8_leaveOut 36 = .ok (.iconst 1, 1) := by decide +kernel
theorem dX8_leaveOut_37 : decode cX8_leaveOut 37 = .ok (.goto 4, 3) := by decide +kernel
theorem dX8_leaveOut_40 : decode cX8_leaveOut 40 = .ok (.iconst 0, 1) := by decide +kernel
theorem dX8_leaveOut_41 : decode cX8_leaveOut 41 = .ok (.istore 6, 2) := by decide +kernel
theorem dX8_leaveOut_43 : decode cX8_leaveOut 43 = .ok (.aload_n 0, 1) := by decide +kernel
theorem dX8_leaveOut_44 : decode cX8_leaveOut 44 = .ok (.getfield 68, 3) := by decide +kernel
theorem dX8_leaveOut_47 : decode cX8_leaveOut 47 = .ok (.getfield 248, 3) := by decide +kernel
theorem dX8_leaveOut_50 : decode cX8_leaveOut 50 = .ok (.getfield 150, 3) := by decide +kernel
theorem dX8_leaveOut_53 : decode cX8_leaveOut 53 = .ok (.iload 5, 2) := by decide +kernel
theorem dX8_leaveOut_55 : decode cX8_leaveOut 55 = .ok (.iload 6, 2) := by decide +kernel
theorem dX8_leaveOut_57 : decode cX8_leaveOut 57 = .ok (.ifCond .eq 7, 3) := by decide +kernel
theorem dX8_leaveOut_60 : decode cX8_leaveOut 60 = .ok (.iconst (-1), 1) := by decide +kernel
theorem dX8_leaveOut_61 : decode cX8_leaveOut 61 = .ok (.goto 13, 3) := by decide +kernel
theorem dX8_leaveOut_64 : decode cX8_leaveOut 64 = .ok (.aload_n 0, 1) := by decide +kernel
theorem dX8_leaveOut_65 : decode cX8_leaveOut 65 = .ok (.getfield 28, 3) := by decide +kernel
theorem dX8_leaveOut_68 : decode cX8_leaveOut 68 = .ok (.getfield 150, 3) := by decide +kernel
theorem dX8_leaveOut_71 : decode cX8_leaveOut 71 = .ok (.iload 5, 2) := by decide +kernel
theorem dX8_leaveOut_73 : decode cX8_leaveOut 73 = .ok (.iaload, 1) := by decide +kernel
theorem dX8_leaveOut_74 : decode cX8_leaveOut 74 = .ok (.iastore, 1) := by decide +kernel
theorem dX8_leaveOut_75 : decode cX8_leaveOut 75 = .ok (.iload_n 3, 1) := by decide +kernel
theorem dX8_leaveOut_76 : decode cX8_leaveOut 76 = .ok (.iload 6, 2) := by decide +kernel
theorem dX8_leaveOut_78 : decode cX8_leaveOut 78 = .ok (.ifCond .eq 10, 3) := by decide +kernel
theorem dX8_leaveOut_81 : decode cX8_leaveOut 81 = .ok (.iconst 1, 1) := by decide +kernel
theorem dX8_leaveOut_82 : decode cX8_leaveOut 82 = .ok (.iload 5, 2) := by decide +kernel
theorem dX8_leaveOut_84 : decode cX8_leaveOut 84 = .ok (.ishl, 1) := by decide +kernel
theorem dX8_leaveOut_85 : decode cX8_leaveOut 85 = .ok (.goto 4, 3) := by decide +kernel
theorem dX8_leaveOut_88 : decode cX8_leaveOut 88 = .ok (.iconst 0, 1) := by decide +kernel
theorem dX8_leaveOut_89 : decode cX8_leaveOut 89 = .ok (.ior, 1) := by decide +kernel
theorem dX8_leaveOut_90 : decode cX8_leaveOut 90 = .ok (.istore_n 3, 1) := by decide +kernel
theorem dX8_leaveOut_91 : decode cX8_leaveOut 91 = .ok (.iinc 4 1, 3) := by decide +kernel
theorem dX8_leaveOut_94 : decode cX8_leaveOut 94 = .ok (.goto (-89), 3) := by decide +kernel
theorem dX8_leaveOut_97 : decode cX8_leaveOut 97 = .ok (.iload_n 3, 1) := by decide +kernel
theorem dX8_leaveOut_98 : decode cX8_leaveOut 98 = .ok (.ireturn, 1) := by decide +kernel
theorem dX9_init_0 : decode cX9_init 0 = .ok (.aload_n 0, 1) := by decide +kernel
theorem dX9_init_1 : decode cX9_init 1 = .ok (.invokespecial 1, 3) := by decide +kernel
theorem dX9_init_4 : decode cX9_init 4 = .ok (.aload_n 0, 1) := by decide +kernel
theorem dX9_init_5 : decode cX9_init 5 = .ok (.iconst 4, 1) := by decide +kernel
theorem dX9_init_6 : decode cX9_init 6 = .ok (.newarray .int, 2) := by decide +kernel
theorem dX9_init_8 : decode cX9_init 8 = .ok (.putfield 7, 3) := by decide +kernel
theorem dX9_init_11 : decode cX9_init 11 = .ok (.aload_n 0, 1) := by decide +kernel
theorem dX9_init_12 : decode cX9_init 12 = .ok (.iconst 4, 1) := by decide +kernel
theorem dX9_init_13 : decode cX9_init 13 = .ok (.newarray .int, 2) := by decide +kernel
theorem dX9_init_15 : decode cX9_init 15 = .ok (.putfield 13, 3) := by decide +kernel
theorem dX9_init_18 : decode cX9_init 18 = .ok (.aload_n 0, 1) := by decide +kernel
theorem dX9_init_19 : decode cX9_init 19 = .ok (.sipush 240, 3) := by decide +kernel
theorem dX9_init_22 : decode cX9_init 22 = .ok (.newarray .long, 2) := by decide +kernel
theorem dX9_init_24 : decode cX9_init 24 = .ok (.putfield 16, 3) := by decide +kernel
theorem dX9_init_27 : decode cX9_init 27 = .ok (.aload_n 0, 1) := by decide +kernel
theorem dX9_init_28 : decode cX9_init 28 = .ok (.bipush 60, 2) := by decide +kernel
theorem dX9_init_30 : decode cX9_init 30 = .ok (.newarray .long, 2) := by decide +kernel
theorem dX9_init_32 : decode cX9_init 32 = .ok (.putfield 20, 3) := by decide +kernel
theorem dX9_init_35 : decode cX9_init 35 = .ok (.aload_n 0, 1) := by decide +kernel
theorem dX9_init_36 : decode cX9_init 36 = .ok (.sipush 2400, 3) := by decide +kernel
theorem dX9_init_39 : decode cX9_init 39 = .ok (.newarray .byte, 2) := by decide +kernel
theorem dX9_init_41 : decode cX9_init 41 = .ok (.putfield 23, 3) := by decide +kernel
theorem dX9_init_44 : decode cX9_init 44 = .ok (.aload_n 0, 1) := by decide +kernel
theorem dX9_init_45 : decode cX9_init 45 = .ok (.iconst (-1), 1) := by decide +kernel
theorem dX9_init_46 : decode cX9_init 46 = .ok (.putfield 27, 3) := by decide +kernel
theorem dX9_init_49 : decode cX9_init 49 = .ok (.aload_n 0, 1) := by decide +kernel
theorem dX9_init_50 : decode cX9_init 50 = .ok (.iconst 5, 1) := by decide +kernel
theorem dX9_init_51 : decode cX9_init 51 = .ok (.newarray .int, 2) := by decide +kernel
theorem dX9_init_53 : decode cX9_init 53 = .ok (.putfield 31, 3) := by decide +kernel
theorem dX9_init_56 : decode cX9_init 56 = .ok (.aload_n 0, 1) := by decide +kernel
theorem dX9_init_57 : decode cX9_init 57 = .ok (.bipush 30, 2) := by decide +kernel
theorem dX9_init_59 : decode cX9_init 59 = .ok (.newarray .int, 2) := by decide +kernel
theorem dX9_init_61 : decode cX9_init 61 = .ok (.putfield 34, 3) := by decide +kernel
theorem dX9_init_64 : decode cX9_init 64 = .ok (.aload_n 0, 1) := by decide +kernel
theorem dX9_init_65 : decode cX9_init 65 = .ok (.bipush 120, 2) := by decide +kernel
theorem dX9_init_67 : decode cX9_init 67 = .ok (.newarray .int, 2) := by decide +kernel
theorem dX9_init_69 : decode cX9_init 69 = .ok (.putfield 37, 3) := by decide +kernel
theorem dX9_init_72 : decode cX9_init 72 = .ok (.aload_n 0, 1) := by decide +kernel
theorem dX9_init_73 : decode cX9_init 73 = .ok (.sipush 960, 3) := by decide +kernel
theorem dX9_init_76 : decode cX9_init 76 = .ok (.newarray .int, 2) := by decide +kernel
theorem dX9_init_78 : decode cX9_init 78 = .ok (.putfield 40, 3) := by decide +kernel
theorem dX9_init_81 : decode cX9_init 81 = .ok (.aload_n 0, 1) := by decide +kernel
theorem dX9_init_82 : decode cX9_init 82 = .ok (.iconst 3, 1) := by decide +kernel
theorem dX9_init_83 : decode cX9_init 83 = .ok (.newarray .boolean, 2) := by decide +kernel
theorem dX9_init_85 : decode cX9_init 85 = .ok (.putfield 43, 3) := by decide +kernel
theorem dX9_init_88 : decode cX9_init 88 = .ok (.aload_n 0, 1) := by decide +kernel
theorem dX9_init_89 : decode cX9_init 89 = .ok (.iconst 4, 1) := by decide +kernel
theorem dX9_init_90 : decode cX9_init 90 = .ok (.newarray .int, 2) := by decide +kernel
theorem dX9_init_92 : decode cX9_init 92 = .ok (.putfield 47, 3) := by decide +kernel
theorem dX9_init_95 : decode cX9_init 95 = .ok (.aload_n 0, 1) := by decide +kernel
theorem dX9_init_96 : decode cX9_init 96 = .ok (.bipush 49, 2) := by decide +kernel
theorem dX9_init_98 : decode cX9_init 98 = .ok (.newarray .int, 2) := by decide +kernel
theorem dX9_init_100 : decode cX9_init 100 = .ok (.putfield 50, 3) := by decide +kernel
theorem dX9_init_103 : decode cX9_init 103 = .ok (.aload_n 0, 1) := by decide +kernel
theorem dX9_init_104 : decode cX9_init 104 = .ok (.bipush 49, 2) := by decide +kernel
theorem dX9_init_106 : decode cX9_init 106 = .ok (.newarray .int, 2) := by decide +kernel
theorem dX9_init_108 : decode cX9_init 108 = .ok (.putfield 53, 3) := by decide +kernel
theorem dX9_init_111 : decode cX9_init 111 = .ok (.aload_n 0, 1) := by decide +kernel
theorem dX9_init_112 : decode cX9_init 112 = .ok (.bipush 49, 2) := by decide +kernel
theorem dX9_init_114 : decode cX9_init 114 = .ok (.newarray .int, 2) := by decide +kernel
theorem dX9_init_116 : decode cX9_init 116 = .ok (.putfield 56, 3) := by decide +kernel
theorem dX9_init_119 : decode cX9_init 119 = .ok (.aload_n 0, 1) := by decide +kernel
theorem dX9_init_120 : decode cX9_init 120 = .ok (.sipush 1960, 3) := by decide +kernel
theorem dX9_init_123 : decode cX9_init 123 = .ok (.newarray .int, 2) := by decide +kernel
theorem dX9_init_125 : decode cX9_init 125 = .ok (.putfield 59, 3) := by decide +kernel
theorem dX9_init_128 : decode cX9_init 128 = .ok (.aload_n 0, 1) := by decide +kernel
theorem dX9_init_129 : decode cX9_init 129 = .ok (.bipush 49, 2) := by decide +kernel
theorem dX9_init_131 : decode cX9_init 131 = .ok (.newarray .boolean, 2) := by decide +kernel
theorem dX9_init_133 : decode cX9_init 133 = .ok (.putfield 62, 3) := by decide +kernel
theorem dX9_init_136 : decode cX9_init 136 = .ok (.aload_n 0, 1) := by decide +kernel
theorem dX9_init_137 : decode cX9_init 137 = .ok (.bipush 64, 2) := by decide +kernel
theorem dX9_init_139 : decode cX9_init 139 = .ok (.newarray .int, 2) := by decide +kernel
theorem dX9_init_141 : decode cX9_init 141 = .ok (.putfield 65, 3) := by decide +kernel
theorem dX9_init_144 : decode cX9_init 144 = .ok (.aload_n 0, 1) := by decide +kernel
theorem dX9_init_145 : decode cX9_init 145 = .ok (.sipush 320, 3) := by decide +kernel
theorem dX9_init_148 : decode cX9_init 148 = .ok (.newarray .int, 2) := by decide +kernel
theorem dX9_init_150 : decode cX9_init 150 = .ok (.putfield 68, 3) := by decide +kernel
theorem dX9_init_153 : decode cX9_init 153 = .ok (.aload_n 0, 1) := by decide +kernel
theorem dX9_init_154 : decode cX9_init 154 = .ok (.sipush 320, 3) := by decide +kernel
theorem dX9_init_157 : decode cX9_init 157 = .ok (.newarray .int, 2) := by decide +kernel
theorem dX9_init_159 : decode cX9_init 159 = .ok (.putfield 71, 3) := by decide +kernel
theorem dX9_init_162 : decode cX9_init 162 = .ok (.aload_n 0, 1) := by decide +kernel
theorem dX9_init_163 : decode cX9_init 163 = .ok (.bipush 49, 2) := by decide +kernel
theorem dX9_init_165 : decode cX9_init 165 = .ok (.newarray .int, 2) := by decide +kernel
theorem dX9_init_167 : decode cX9_init 167 = .ok (.putfield 74, 3) := by decide +kernel
theorem dX9_init_170 : decode cX9_init 170 = .ok (.aload_n 0, 1) := by decide +kernel
theorem dX9_init_171 : decode cX9_init 171 = .ok (.bipush 49, 2) := by decide +kernel
theorem dX9_init_173 : decode cX9_init 173 = .ok (.newarray .int, 2) := by decide +kernel
theorem dX9_init_175 : decode cX9_init 175 = .ok (.putfield 77, 3) := by decide +kernel
theorem dX9_init_178 : decode cX9_init 178 = .ok (.aload_n 0, 1) := by decide +kernel
theorem dX9_init_179 : decode cX9_init 179 = .ok (.bipush 24, 2) := by decide +kernel
theorem dX9_init_181 : decode cX9_init 181 = .ok (.newarray .int, 2) := by decide +kernel
theorem dX9_init_183 : decode cX9_init 183 = .ok (.putfield 80, 3) := by decide +kernel
theorem dX9_init_186 : decode cX9_init 186 = .ok (.aload_n 0, 1) := by decide +kernel
theorem dX9_init_187 : decode cX9_init 187 = .ok (.bipush 6, 2) := by decide +kernel
theorem dX9_init_189 : decode cX9_init 189 = .ok (.newarray .int, 2) := by decide +kernel
theorem dX9_init_191 : decode cX9_init 191 = .ok (.putfield 83, 3) := by decide +kernel
theorem dX9_init_194 : decode cX9_init 194 = .ok (.aload_n 0, 1) := by decide +kernel
theorem dX9_init_195 : decode cX9_init 195 = .ok (.bipush 6, 2) := by decide +kernel
theorem dX9_init_197 : decode cX9_init 197 = .ok (.newarray .int, 2) := by decide +kernel
theorem dX9_init_199 : decode cX9_init 199 = .ok (.putfield 86, 3) := by decide +kernel
theorem dX9_init_202 : decode cX9_init 202 = .ok (.aload_n 0, 1) := by decide +kernel
theorem dX9_init_203 : decode cX9_init 203 = .ok (.bipush 24, 2) := by decide +kernel
theorem dX9_init_205 : decode cX9_init 205 = .ok (.newarray .int, 2) := by decide +kernel
theorem dX9_init_207 : decode cX9_init 207 = .ok (.putfield 89, 3) := by decide +kernel
theorem dX9_init_210 : decode cX9_init 210 = .ok (.aload_n 0, 1) := by decide +kernel
theorem dX9_init_211 : decode cX9_init 211 = .ok (.bipush 24, 2) := by decide +kernel
theorem dX9_init_213 : decode cX9_init 213 = .ok (.newarray .int, 2) := by decide +kernel
theorem dX9_init_215 : decode cX9_init 215 = .ok (.putfield 92, 3) := by decide +kernel
theorem dX9_init_218 : decode cX9_init 218 = .ok (.iconst 0, 1) := by decide +kernel
theorem dX9_init_219 : decode cX9_init 219 = .ok (.istore_n 1, 1) := by decide +kernel
theorem dX9_init_220 : decode cX9_init 220 = .ok (.iload_n 1, 1) := by decide +kernel
theorem dX9_init_221 : decode cX9_init 221 = .ok (.iconst 4, 1) := by decide +kernel
theorem dX9_init_222 : decode cX9_init 222 = .ok (.if_icmp .ge 16, 3) := by decide +kernel
theorem dX9_init_225 : decode cX9_init 225 = .ok (.aload_n 0, 1) := by decide +kernel
theorem dX9_init_226 : decode cX9_init 226 = .ok (.getfield 7, 3) := by decide +kernel
theorem dX9_init_229 : decode cX9_init 229 = .ok (.iload_n 1, 1) := by decide +kernel
theorem dX9_init_230 : decode cX9_init 230 = .ok (.iconst (-1), 1) := by decide +kernel
theorem dX9_init_231 : decode cX9_init 231 = .ok (.iastore, 1) := by decide +kernel
theorem dX9_init_232 : decode cX9_init 232 = .ok (.iinc 1 1, 3) := by decide +kernel
theorem dX9_init_235 : decode cX9_init 235 = .ok (.goto (-15), 3) := by decide +kernel
theorem dX9_init_238 : decode cX9_init 238 = .ok (.return_, 1) := by decide +kernel
theorem dX9_in_0 : decode cX9_in 0 = .ok (.lload_n 0, 1) := by decide +kernel
theorem dX9_in_1 : decode cX9_in 1 = .ok (.lload_n 2, 1) := by decide +kernel
theorem dX9_in_2 : decode cX9_in 2 = .ok (.lcmp, 1) := by decide +kernel
theorem dX9_in_3 : decode cX9_in 3 = .ok (.ifCond .lt 14, 3) := by decide +kernel
theorem dX9_in_6 : decode cX9_in 6 = .ok (.lload_n 0, 1) := by decide +kernel
theorem dX9_in_7 : decode cX9_in 7 = .ok (.lload 4, 2) := by decide +kernel
theorem dX9_in_9 : decode cX9_in 9 = .ok (.lcmp, 1) := by decide +kernel
theorem dX9_in_10 : decode cX9_in 10 = .ok (.ifCond .gt 7, 3) := by decide +kernel
theorem dX9_in_13 : decode cX9_in 13 = .ok (.iconst 1, 1) := by decide +kernel
theorem dX9_in_14 : decode cX9_in 14 = .ok (.goto 4, 3) := by decide +kernel
theorem dX9_in_17 : decode cX9_in 17 = .ok (.iconst 0, 1) := by decide +kernel
theorem dX9_in_18 : decode cX9_in 18 = .ok (.ireturn, 1) := by decide +kernel
theorem dX9_isSlot_0 : decode cX9_isSlot 0 = .ok (.iload_n 0, 1) := by decide +kernel
theorem dX9_isSlot_1 : decode cX9_isSlot 1 = .ok (.i2l, 1) := by decide +kernel
theorem dX9_isSlot_2 : decode cX9_isSlot 2 = .ok (.lconst 0, 1) := by decide +kernel
theorem dX9_isSlot_3 : decode cX9_isSlot 3 = .ok (.ldc2_w 98, 3) := by decide +kernel
theorem dX9_isSlot_6 : decode cX9_isSlot 6 = .ok (.invokestatic 100, 3) := by decide +kernel
theorem dX9_isSlot_9 : decode cX9_isSlot 9 = .ok (.ireturn, 1) := by decide +kernel
theorem dX9_row_0 : decode cX9_row 0 = .ok (.aload_n 0, 1) := by decide +kernel
theorem dX9_row_1 : decode cX9_row 1 = .ok (.iconst 0, 1) := by decide +kernel
theorem dX9_row_2 : decode cX9_row 2 = .ok (.putfield 95, 3) := by decide +kernel
theorem dX9_row_5 : decode cX9_row 5 = .ok (.iload_n 1, 1) := by decide +kernel
theorem dX9_row_6 : decode cX9_row 6 = .ok (.invokestatic 104, 3) := by decide +kernel
theorem dX9_row_9 : decode cX9_row 9 = .ok (.ifCond .eq 21, 3) := by decide +kernel
theorem dX9_row_12 : decode cX9_row 12 = .ok (.iload_n 2, 1) := by decide +kernel
theorem dX9_row_13 : decode cX9_row 13 = .ok (.i2l, 1) := by decide +kernel
theorem dX9_row_14 : decode cX9_row 14 = .ok (.lconst 0, 1) := by decide +kernel
theorem dX9_row_15 : decode cX9_row 15 = .ok (.ldc2_w 98, 3) := by decide +kernel
theorem dX9_row_18 : decode cX9_row 18 = .ok (.invokestatic 100, 3) := by decide +kernel
theorem dX9_row_21 : decode cX9_row 21 = .ok (.ifCond .eq 9, 3) := by decide +kernel
theorem dX9_row_24 : decode cX9_row 24 = .ok (.iload_n 3, 1) := by decide +kernel
theorem dX9_row_25 : decode cX9_row 25 = .ok (.bipush 60, 2) := by decide +kernel
theorem dX9_row_27 : decode cX9_row 27 = .ok (.if_icmp .le 6, 3) := by decide +kernel
theorem dX9_row_30 : decode cX9_row 30 = .ok (.bipush (-2), 2) := by decide +kernel
theorem dX9_row_32 : decode cX9_row 32 = .ok (.ireturn, 1) := by decide +kernel
theorem dX9_row_33 : decode cX9_row 33 = .ok (.iload_n 3, 1) := by decide +kernel
theorem dX9_row_34 : decode cX9_row 34 = .ok (.ifCond .ge 6, 3) := by decide +kernel
theorem dX9_row_37 : decode cX9_row 37 = .ok (.bipush (-3), 2) := by decide +kernel
theorem dX9_row_39 : decode cX9_row 39 = .ok (.ireturn, 1) := by decide +kernel
theorem dX9_row_40 : decode cX9_row 40 = .ok (.aload_n 0, 1) := by decide +kernel
theorem dX9_row_41 : decode cX9_row 41 = .ok (.getfield 7, 3) := by decide +kernel
theorem dX9_row_44 : decode cX9_row 44 = .ok (.iload_n 1, 1) := by decide +kernel
theorem dX9_row_45 : decode cX9_row 45 = .ok (.iload_n 2, 1) := by decide +kernel
theorem dX9_row_46 : decode cX9_row 46 = .ok (.iastore, 1) := by decide +kernel
theorem dX9_row_47 : decode cX9_row 47 = .ok (.aload_n 0, 1) := by decide +kernel
theorem dX9_row_48 : decode cX9_row 48 = .ok (.getfield 13, 3) := by decide +kernel
theorem dX9_row_51 : decode cX9_row 51 = .ok (.iload_n 1, 1) := by decide +kernel
theorem dX9_row_52 : decode cX9_row 52 = .ok (.iload_n 3, 1) := by decide +kernel
theorem dX9_row_53 : decode cX9_row 53 = .ok (.iastore, 1) := by decide +kernel
theorem dX9_row_54 : decode cX9_row 54 = .ok (.iconst 0, 1) := by decide +kernel
theorem dX9_row_55 : decode cX9_row 55 = .ok (.istore 4, 2) := by decide +kernel
theorem dX9_row_57 : decode cX9_row 57 = .ok (.iload 4, 2) := by decide +kernel
theorem dX9_row_59 : decode cX9_row 59 = .ok (.iload_n 3, 1) := by decide +kernel
theorem dX9_row_60 : decode cX9_row 60 = .ok (.if_icmp .ge 22, 3) := by decide +kernel
theorem dX9_row_63 : decode cX9_row 63 = .ok (.aload_n 0, 1) := by decide +kernel
theorem dX9_row_64 : decode cX9_row 64 = .ok (.getfield 16, 3) := by decide +kernel
theorem dX9_row_67 : decode cX9_row 67 = .ok (.bipush 60, 2) := by decide +kernel
theorem dX9_row_69 : decode cX9_row 69 = .ok (.iload_n 1, 1) := by decide +kernel
theorem dX9_row_70 : decode cX9_row 70 = .ok (.imul, 1) := by decide +kernel
theorem dX9_row_71 : decode cX9_row 71 = .ok (.iload 4, 2) := by decide +kernel
theorem dX9_row_73 : decode cX9_row 73 = .ok (.iadd, 1) := by decide +kernel
theorem dX9_row_74 : decode cX9_row 74 = .ok (.lconst 0, 1) := by decide +kernel
theorem dX9_row_75 : decode cX9_row 75 = .ok (.lastore, 1) := by decide +kernel
theorem dX9_row_76 : decode cX9_row 76 = .ok (.iinc 4 1, 3) := by decide +kernel
theorem dX9_row_79 : decode cX9_row 79 = .ok (.goto (-22), 3) := by decide +kernel
theorem dX9_row_82 : decode cX9_row 82 = .ok (.iconst 0, 1) := by decide +kernel
theorem dX9_row_83 : decode cX9_row 83 = .ok (.ireturn, 1) := by decide +kernel
theorem dX9_cut_0 : decode cX9_cut 0 = .ok (.iload_n 2, 1) := by decide +kernel
theorem dX9_cut_1 : decode cX9_cut 1 = .ok (.ifCond .ne 10, 3) := by decide +kernel
theorem dX9_cut_4 : decode cX9_cut 4 = .ok (.lload_n 0, 1) := by decide +kernel
theorem dX9_cut_5 : decode cX9_cut 5 = .ok (.l2i, 1) := by decide +kernel
theorem dX9_cut_6 : decode cX9_cut 6 = .ok (.i2b, 1) := by decide +kernel
theorem dX9_cut_7 : decode cX9_cut 7 = .ok (.i2l, 1) := by decide +kernel
theorem dX9_cut_8 : decode cX9_cut 8 = .ok (.goto 27, 3) := by decide +kernel
theorem dX9_cut_11 : decode cX9_cut 11 = .ok (.iload_n 2, 1) := by decide +kernel
theorem dX9_cut_12 : decode cX9_cut 12 = .ok (.iconst 1, 1) := by decide +kernel
theorem dX9_cut_13 : decode cX9_cut 13 = .ok (.if_icmp .ne 10, 3) := by decide +kernel
theorem dX9_cut_16 : decode cX9_cut 16 = .ok (.lload_n 0, 1) := by decide +kernel
theorem dX9_cut_17 : decode cX9_cut 17 = .ok (.l2i, 1) := by decide +kernel
theorem dX9_cut_18 : decode cX9_cut 18 = .ok (.i2s, 1) := by decide +kernel
theorem dX9_cut_19 : decode cX9_cut 19 = .ok (.i2l, 1) := by decide +kernel
theorem dX9_cut_20 : decode cX9_cut 20 = .ok (.goto 15, 3) := by decide +kernel
theorem dX9_cut_23 : decode cX9_cut 23 = .ok (.iload_n 2, 1) := by decide +kernel
theorem dX9_cut_24 : decode cX9_cut 24 = .ok (.iconst 2, 1) := by decide +kernel
theorem dX9_cut_25 : decode cX9_cut 25 = .ok (.if_icmp .ne 9, 3) := by decide +kernel
theorem dX9_cut_28 : decode cX9_cut 28 = .ok (.lload_n 0, 1) := by decide +kernel
theorem dX9_cut_29 : decode cX9_cut 29 = .ok (.l2i, 1) := by decide +kernel
theorem dX9_cut_30 : decode cX9_cut 30 = .ok (.i2l, 1) := by decide +kernel
theorem dX9_cut_31 : decode cX9_cut 31 = .ok (.goto 4, 3) := by decide +kernel
theorem dX9_cut_34 : decode cX9_cut 34 = .ok (.lload_n 0, 1) := by decide +kernel
theorem dX9_cut_35 : decode cX9_cut 35 = .ok (.lreturn, 1) := by decide +kernel
theorem dX9_write_0 : decode cX9_write 0 = .ok (.aload_n 0, 1) := by decide +kernel
theorem dX9_write_1 : decode cX9_write 1 = .ok (.iconst 0, 1) := by decide +kernel
theorem dX9_write_2 : decode cX9_write 2 = .ok (.putfield 95, 3) := by decide +kernel
theorem dX9_write_5 : decode cX9_write 5 = .ok (.iload_n 1, 1) := by decide +kernel
theorem dX9_write_6 : decode cX9_write 6 = .ok (.invokestatic 104, 3) := by decide +kernel
theorem dX9_write_9 : decode cX9_write 9 = .ok (.ifCond .ne 6, 3) := by decide +kernel
theorem dX9_write_12 : decode cX9_write 12 = .ok (.bipush (-2), 2) := by decide +kernel
theorem dX9_write_14 : decode cX9_write 14 = .ok (.ireturn, 1) := by decide +kernel
theorem dX9_write_15 : decode cX9_write 15 = .ok (.aload_n 0, 1) := by decide +kernel
theorem dX9_write_16 : decode cX9_write 16 = .ok (.getfield 7, 3) := by decide +kernel
theorem dX9_write_19 : decode cX9_write 19 = .ok (.iload_n 1, 1) := by decide +kernel
theorem dX9_write_20 : decode cX9_write 20 = .ok (.iaload, 1) := by decide +kernel
theorem dX9_write_21 : decode cX9_write 21 = .ok (.iconst (-1), 1) := by decide +kernel
theorem dX9_write_22 : decode cX9_write 22 = .ok (.if_icmp .ne 6, 3) := by decide +kernel
theorem dX9_write_25 : decode cX9_write 25 = .ok (.bipush (-6), 2) := by decide +kernel
theorem dX9_write_27 : decode cX9_write 27 = .ok (.ireturn, 1) := by decide +kernel
theorem dX9_write_28 : decode cX9_write 28 = .ok (.iload_n 2, 1) := by decide +kernel
theorem dX9_write_29 : decode cX9_write 29 = .ok (.i2l, 1) := by decide +kernel
theorem dX9_write_30 : decode cX9_write 30 = .ok (.lconst 0, 1) := by decide +kernel
theorem dX9_write_31 : decode cX9_write 31 = .ok (.aload_n 0, 1) := by decide +kernel
theorem dX9_write_32 : decode cX9_write 32 = .ok (.getfield 13, 3) := by decide +kernel
theorem dX9_write_35 : decode cX9_write 35 = .ok (.iload_n 1, 1) := by decide +kernel
theorem dX9_write_36 : decode cX9_write 36 = .ok (.iaload, 1) := by decide +kernel
theorem dX9_write_37 : decode cX9_write 37 = .ok (.iconst 1, 1) := by decide +kernel
theorem dX9_write_38 : decode cX9_write 38 = .ok (.isub, 1) := by decide +kernel
theorem dX9_write_39 : decode cX9_write 39 = .ok (.i2l, 1) := by decide +kernel
theorem dX9_write_40 : decode cX9_write 40 = .ok (.invokestatic 100, 3) := by decide +kernel
theorem dX9_write_43 : decode cX9_write 43 = .ok (.ifCond .ne 6, 3) := by decide +kernel
theorem dX9_write_46 : decode cX9_write 46 = .ok (.bipush (-7), 2) := by decide +kernel
theorem dX9_write_48 : decode cX9_write 48 = .ok (.ireturn, 1) := by decide +kernel
theorem dX9_write_49 : decode cX9_write 49 = .ok (.aload_n 0, 1) := by decide +kernel
theorem dX9_write_50 : decode cX9_write 50 = .ok (.getfield 16, 3) := by decide +kernel
theorem dX9_write_53 : decode cX9_write 53 = .ok (.bipush 60, 2) := by decide +kernel
theorem dX9_write_55 : decode cX9_write 55 = .ok (.iload_n 1, 1) := by decide +kernel
theorem dX9_write_56 : decode cX9_write 56 = .ok (.imul, 1) := by decide +kernel
theorem dX9_write_57 : decode cX9_write 57 = .ok (.iload_n 2, 1) := by decide +kernel
theorem dX9_write_58 : decode cX9_write 58 = .ok (.iadd, 1) := by decide +kernel
theorem dX9_write_59 : decode cX9_write 59 = .ok (.lload_n 3, 1) := by decide +kernel
theorem dX9_write_60 : decode cX9_write 60 = .ok (.aload_n 0, 1) := by decide +kernel
theorem dX9_write_61 : decode cX9_write 61 = .ok (.getfield 7, 3) := by decide +kernel
theorem dX9_write_64 : decode cX9_write 64 = .ok (.iload_n 1, 1) := by decide +kernel
theorem dX9_write_65 : decode cX9_write 65 = .ok (.iaload, 1) := by decide +kernel
theorem dX9_write_66 : decode cX9_write 66 = .ok (.invokestatic 108, 3) := by decide +kernel
theorem dX9_write_69 : decode cX9_write 69 = .ok (.lastore, 1) := by decide +kernel
theorem dX9_write_70 : decode cX9_write 70 = .ok (.iconst 0, 1) := by decide +kernel
theorem dX9_write_71 : decode cX9_write 71 = .ok (.ireturn, 1) := by decide +kernel
theorem dX9_paste_0 : decode cX9_paste 0 = .ok (.aload_n 0, 1) := by decide +kernel
theorem dX9_paste_1 : decode cX9_paste 1 = .ok (.iconst 0, 1) := by decide +kernel
theorem dX9_paste_2 : decode cX9_paste 2 = .ok (.putfield 95, 3) := by decide +kernel
theorem dX9_paste_5 : decode cX9_paste 5 = .ok (.iload_n 1, 1) := by decide +kernel
theorem dX9_paste_6 : decode cX9_paste 6 = .ok (.invokestatic 104, 3) := by decide +kernel
theorem dX9_paste_9 : decode cX9_paste 9 = .ok (.ifCond .eq 10, 3) := by decide +kernel
theorem dX9_paste_12 : decode cX9_paste 12 = .ok (.iload_n 3, 1) := by decide +kernel
theorem dX9_paste_13 : decode cX9_paste 13 = .ok (.invokestatic 104, 3) := by decide +kernel
theorem dX9_paste_16 : decode cX9_paste 16 = .ok (.ifCond .ne 6, 3) := by decide +kernel
theorem dX9_paste_19 : decode cX9_paste 19 = .ok (.bipush (-2), 2) := by decide +kernel
theorem dX9_paste_21 : decode cX9_paste 21 = .ok (.ireturn, 1) := by decide +kernel
theorem dX9_paste_22 : decode cX9_paste 22 = .ok (.aload_n 0, 1) := by decide +kernel
theorem dX9_paste_23 : decode cX9_paste 23 = .ok (.getfield 7, 3) := by decide +kernel
theorem dX9_paste_26 : decode cX9_paste 26 = .ok (.iload_n 1, 1) := by decide +kernel
theorem dX9_paste_27 : decode cX9_paste 27 = .ok (.iaload, 1) := by decide +kernel
theorem dX9_paste_28 : decode cX9_paste 28 = .ok (.iconst (-1), 1) := by decide +kernel
theorem dX9_paste_29 : decode cX9_paste 29 = .ok (.if_icmp .eq 13, 3) := by decide +kernel
theorem dX9_paste_32 : decode cX9_paste 32 = .ok (.aload_n 0, 1) := by decide +kernel
theorem dX9_paste_33 : decode cX9_paste 33 = .ok (.getfield 7, 3) := by decide +kernel
theorem dX9_paste_36 : decode cX9_paste 36 = .ok (.iload_n 3, 1) := by decide +kernel
theorem dX9_paste_37 : decode cX9_paste 37 = .ok (.iaload, 1) := by decide +kernel
theorem dX9_paste_38 : decode cX9_paste 38 = .ok (.iconst (-1), 1) := by decide +kernel
theorem dX9_paste_39 : decode cX9_paste 39 = .ok (.if_icmp .ne 6, 3) := by decide +kernel
theorem dX9_paste_42 : decode cX9_paste 42 = .ok (.bipush (-6), 2) := by decide +kernel
theorem dX9_paste_44 : decode cX9_paste 44 = .ok (.ireturn, 1) := by decide +kernel
theorem dX9_paste_45 : decode cX9_paste 45 = .ok (.aload_n 0, 1) := by decide +kernel
theorem dX9_paste_46 : decode cX9_paste 46 = .ok (.getfield 7, 3) := by decide +kernel
