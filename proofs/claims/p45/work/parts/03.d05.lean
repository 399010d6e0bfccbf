theorem dX9_paste_49 : decode cX9_paste 49 = .ok (.iload_n 1, 1) := by decide +kernel
theorem dX9_paste_50 : decode cX9_paste 50 = .ok (.iaload, 1) := by decide +kernel
theorem dX9_paste_51 : decode cX9_paste 51 = .ok (.aload_n 0, 1) := by decide +kernel
theorem dX9_paste_52 : decode cX9_paste 52 = .ok (.getfield 7, 3) := by decide +kernel
theorem dX9_paste_55 : decode cX9_paste 55 = .ok (.iload_n 3, 1) := by decide +kernel
theorem dX9_paste_56 : decode cX9_paste 56 = .ok (.iaload, 1) := by decide +kernel
theorem dX9_paste_57 : decode cX9_paste 57 = .ok (.if_icmp .eq 6, 3) := by decide +kernel
theorem dX9_paste_60 : decode cX9_paste 60 = .ok (.bipush (-8), 2) := by decide +kernel
theorem dX9_paste_62 : decode cX9_paste 62 = .ok (.ireturn, 1) := by decide +kernel
theorem dX9_paste_63 : decode cX9_paste 63 = .ok (.iload_n 2, 1) := by decide +kernel
theorem dX9_paste_64 : decode cX9_paste 64 = .ok (.ifCond .lt 48, 3) := by decide +kernel
theorem dX9_paste_67 : decode cX9_paste 67 = .ok (.iload 4, 2) := by decide +kernel
theorem dX9_paste_69 : decode cX9_paste 69 = .ok (.ifCond .lt 43, 3) := by decide +kernel
theorem dX9_paste_72 : decode cX9_paste 72 = .ok (.iload 5, 2) := by decide +kernel
theorem dX9_paste_74 : decode cX9_paste 74 = .ok (.ifCond .lt 38, 3) := by decide +kernel
theorem dX9_paste_77 : decode cX9_paste 77 = .ok (.iload_n 2, 1) := by decide +kernel
theorem dX9_paste_78 : decode cX9_paste 78 = .ok (.i2l, 1) := by decide +kernel
theorem dX9_paste_79 : decode cX9_paste 79 = .ok (.iload 5, 2) := by decide +kernel
theorem dX9_paste_81 : decode cX9_paste 81 = .ok (.i2l, 1) := by decide +kernel
theorem dX9_paste_82 : decode cX9_paste 82 = .ok (.ladd, 1) := by decide +kernel
theorem dX9_paste_83 : decode cX9_paste 83 = .ok (.aload_n 0, 1) := by decide +kernel
theorem dX9_paste_84 : decode cX9_paste 84 = .ok (.getfield 13, 3) := by decide +kernel
theorem dX9_paste_87 : decode cX9_paste 87 = .ok (.iload_n 1, 1) := by decide +kernel
theorem dX9_paste_88 : decode cX9_paste 88 = .ok (.iaload, 1) := by decide +kernel
theorem dX9_paste_89 : decode cX9_paste 89 = .ok (.i2l, 1) := by decide +kernel
theorem dX9_paste_90 : decode cX9_paste 90 = .ok (.lcmp, 1) := by decide +kernel
theorem dX9_paste_91 : decode cX9_paste 91 = .ok (.ifCond .gt 21, 3) := by decide +kernel
theorem dX9_paste_94 : decode cX9_paste 94 = .ok (.iload 4, 2) := by decide +kernel
theorem dX9_paste_96 : decode cX9_paste 96 = .ok (.i2l, 1) := by decide +kernel
theorem dX9_paste_97 : decode cX9_paste 97 = .ok (.iload 5, 2) := by decide +kernel
theorem dX9_paste_99 : decode cX9_paste 99 = .ok (.i2l, 1) := by decide +kernel
theorem dX9_paste_100 : decode cX9_paste 100 = .ok (.ladd, 1) := by decide +kernel
theorem dX9_paste_101 : decode cX9_paste 101 = .ok (.aload_n 0, 1) := by decide +kernel
theorem dX9_paste_102 : decode cX9_paste 102 = .ok (.getfield 13, 3) := by decide +kernel
theorem dX9_paste_105 : decode cX9_paste 105 = .ok (.iload_n 3, 1) := by decide +kernel
theorem dX9_paste_106 : decode cX9_paste 106 = .ok (.iaload, 1) := by decide +kernel
theorem dX9_paste_107 : decode cX9_paste 107 = .ok (.i2l, 1) := by decide +kernel
theorem dX9_paste_108 : decode cX9_paste 108 = .ok (.lcmp, 1) := by decide +kernel
theorem dX9_paste_109 : decode cX9_paste 109 = .ok (.ifCond .le 6, 3) := by decide +kernel
theorem dX9_paste_112 : decode cX9_paste 112 = .ok (.bipush (-7), 2) := by decide +kernel
theorem dX9_paste_114 : decode cX9_paste 114 = .ok (.ireturn, 1) := by decide +kernel
theorem dX9_paste_115 : decode cX9_paste 115 = .ok (.iconst 0, 1) := by decide +kernel
theorem dX9_paste_116 : decode cX9_paste 116 = .ok (.istore 6, 2) := by decide +kernel
theorem dX9_paste_118 : decode cX9_paste 118 = .ok (.iload 6, 2) := by decide +kernel
theorem dX9_paste_120 : decode cX9_paste 120 = .ok (.iload 5, 2) := by decide +kernel
theorem dX9_paste_122 : decode cX9_paste 122 = .ok (.if_icmp .ge 30, 3) := by decide +kernel
theorem dX9_paste_125 : decode cX9_paste 125 = .ok (.aload_n 0, 1) := by decide +kernel
theorem dX9_paste_126 : decode cX9_paste 126 = .ok (.getfield 20, 3) := by decide +kernel
theorem dX9_paste_129 : decode cX9_paste 129 = .ok (.iload 6, 2) := by decide +kernel
theorem dX9_paste_131 : decode cX9_paste 131 = .ok (.aload_n 0, 1) := by decide +kernel
theorem dX9_paste_132 : decode cX9_paste 132 = .ok (.getfield 16, 3) := by decide +kernel
theorem dX9_paste_135 : decode cX9_paste 135 = .ok (.bipush 60, 2) := by decide +kernel
theorem dX9_paste_137 : decode cX9_paste 137 = .ok (.iload_n 1, 1) := by decide +kernel
theorem dX9_paste_138 : decode cX9_paste 138 = .ok (.imul, 1) := by decide +kernel
theorem dX9_paste_139 : decode cX9_paste 139 = .ok (.iload_n 2, 1) := by decide +kernel
theorem dX9_paste_140 : decode cX9_paste 140 = .ok (.iadd, 1) := by decide +kernel
theorem dX9_paste_141 : decode cX9_paste 141 = .ok (.iload 6, 2) := by decide +kernel
theorem dX9_paste_143 : decode cX9_paste 143 = .ok (.iadd, 1) := by decide +kernel
theorem dX9_paste_144 : decode cX9_paste 144 = .ok (.laload, 1) := by decide +kernel
theorem dX9_paste_145 : decode cX9_paste 145 = .ok (.lastore, 1) := by decide +kernel
theorem dX9_paste_146 : decode cX9_paste 146 = .ok (.iinc 6 1, 3) := by decide +kernel
theorem dX9_paste_149 : decode cX9_paste 149 = .ok (.goto (-31), 3) := by decide +kernel
theorem dX9_paste_152 : decode cX9_paste 152 = .ok (.iconst 0, 1) := by decide +kernel
theorem dX9_paste_153 : decode cX9_paste 153 = .ok (.istore 6, 2) := by decide +kernel
theorem dX9_paste_155 : decode cX9_paste 155 = .ok (.iload 6, 2) := by decide +kernel
theorem dX9_paste_157 : decode cX9_paste 157 = .ok (.iload 5, 2) := by decide +kernel
theorem dX9_paste_159 : decode cX9_paste 159 = .ok (.if_icmp .ge 31, 3) := by decide +kernel
theorem dX9_paste_162 : decode cX9_paste 162 = .ok (.aload_n 0, 1) := by decide +kernel
theorem dX9_paste_163 : decode cX9_paste 163 = .ok (.getfield 16, 3) := by decide +kernel
theorem dX9_paste_166 : decode cX9_paste 166 = .ok (.bipush 60, 2) := by decide +kernel
theorem dX9_paste_168 : decode cX9_paste 168 = .ok (.iload_n 3, 1) := by decide +kernel
theorem dX9_paste_169 : decode cX9_paste 169 = .ok (.imul, 1) := by decide +kernel
theorem dX9_paste_170 : decode cX9_paste 170 = .ok (.iload 4, 2) := by decide +kernel
theorem dX9_paste_172 : decode cX9_paste 172 = .ok (.iadd, 1) := by decide +kernel
theorem dX9_paste_173 : decode cX9_paste 173 = .ok (.iload 6, 2) := by decide +kernel
theorem dX9_paste_175 : decode cX9_paste 175 = .ok (.iadd, 1) := by decide +kernel
theorem dX9_paste_176 : decode cX9_paste 176 = .ok (.aload_n 0, 1) := by decide +kernel
theorem dX9_paste_177 : decode cX9_paste 177 = .ok (.getfield 20, 3) := by decide +kernel
theorem dX9_paste_180 : decode cX9_paste 180 = .ok (.iload 6, 2) := by decide +kernel
theorem dX9_paste_182 : decode cX9_paste 182 = .ok (.laload, 1) := by decide +kernel
theorem dX9_paste_183 : decode cX9_paste 183 = .ok (.lastore, 1) := by decide +kernel
theorem dX9_paste_184 : decode cX9_paste 184 = .ok (.iinc 6 1, 3) := by decide +kernel
theorem dX9_paste_187 : decode cX9_paste 187 = .ok (.goto (-32), 3) := by decide +kernel
theorem dX9_paste_190 : decode cX9_paste 190 = .ok (.iconst 0, 1) := by decide +kernel
theorem dX9_paste_191 : decode cX9_paste 191 = .ok (.ireturn, 1) := by decide +kernel
theorem dX9_feed_0 : decode cX9_feed 0 = .ok (.aload_n 0, 1) := by decide +kernel
theorem dX9_feed_1 : decode cX9_feed 1 = .ok (.iconst 0, 1) := by decide +kernel
theorem dX9_feed_2 : decode cX9_feed 2 = .ok (.putfield 95, 3) := by decide +kernel
theorem dX9_feed_5 : decode cX9_feed 5 = .ok (.aload_n 0, 1) := by decide +kernel
theorem dX9_feed_6 : decode cX9_feed 6 = .ok (.getfield 112, 3) := by decide +kernel
theorem dX9_feed_9 : decode cX9_feed 9 = .ok (.bipush 20, 2) := by decide +kernel
theorem dX9_feed_11 : decode cX9_feed 11 = .ok (.iadd, 1) := by decide +kernel
theorem dX9_feed_12 : decode cX9_feed 12 = .ok (.sipush 2400, 3) := by decide +kernel
theorem dX9_feed_15 : decode cX9_feed 15 = .ok (.if_icmp .le 5, 3) := by decide +kernel
theorem dX9_feed_18 : decode cX9_feed 18 = .ok (.iconst (-1), 1) := by decide +kernel
theorem dX9_feed_19 : decode cX9_feed 19 = .ok (.ireturn, 1) := by decide +kernel
theorem dX9_feed_20 : decode cX9_feed 20 = .ok (.aload_n 0, 1) := by decide +kernel
theorem dX9_feed_21 : decode cX9_feed 21 = .ok (.iload_n 1, 1) := by decide +kernel
theorem dX9_feed_22 : decode cX9_feed 22 = .ok (.invokevirtual 115, 3) := by decide +kernel
theorem dX9_feed_25 : decode cX9_feed 25 = .ok (.aload_n 0, 1) := by decide +kernel
theorem dX9_feed_26 : decode cX9_feed 26 = .ok (.iload_n 2, 1) := by decide +kernel
theorem dX9_feed_27 : decode cX9_feed 27 = .ok (.invokevirtual 115, 3) := by decide +kernel
theorem dX9_feed_30 : decode cX9_feed 30 = .ok (.aload_n 0, 1) := by decide +kernel
theorem dX9_feed_31 : decode cX9_feed 31 = .ok (.iload_n 3, 1) := by decide +kernel
theorem dX9_feed_32 : decode cX9_feed 32 = .ok (.invokevirtual 115, 3) := by decide +kernel
theorem dX9_feed_35 : decode cX9_feed 35 = .ok (.aload_n 0, 1) := by decide +kernel
theorem dX9_feed_36 : decode cX9_feed 36 = .ok (.iload 4, 2) := by decide +kernel
theorem dX9_feed_38 : decode cX9_feed 38 = .ok (.invokevirtual 115, 3) := by decide +kernel
theorem dX9_feed_41 : decode cX9_feed 41 = .ok (.aload_n 0, 1) := by decide +kernel
theorem dX9_feed_42 : decode cX9_feed 42 = .ok (.iload 5, 2) := by decide +kernel
theorem dX9_feed_44 : decode cX9_feed 44 = .ok (.invokevirtual 115, 3) := by decide +kernel
theorem dX9_feed_47 : decode cX9_feed 47 = .ok (.aload_n 0, 1) := by decide +kernel
theorem dX9_feed_48 : decode cX9_feed 48 = .ok (.getfield 112, 3) := by decide +kernel
theorem dX9_feed_51 : decode cX9_feed 51 = .ok (.ireturn, 1) := by decide +kernel
theorem dX9_four_0 : decode cX9_four 0 = .ok (.bipush 24, 2) := by decide +kernel
theorem dX9_four_2 : decode cX9_four 2 = .ok (.istore_n 2, 1) := by decide +kernel
theorem dX9_four_3 : decode cX9_four 3 = .ok (.iload_n 2, 1) := by decide +kernel
theorem dX9_four_4 : decode cX9_four 4 = .ok (.ifCond .lt 32, 3) := by decide +kernel
theorem dX9_four_7 : decode cX9_four 7 = .ok (.aload_n 0, 1) := by decide +kernel
theorem dX9_four_8 : decode cX9_four 8 = .ok (.getfield 23, 3) := by decide +kernel
theorem dX9_four_11 : decode cX9_four 11 = .ok (.aload_n 0, 1) := by decide +kernel
theorem dX9_four_12 : decode cX9_four 12 = .ok (.getfield 112, 3) := by decide +kernel
theorem dX9_four_15 : decode cX9_four 15 = .ok (.iload_n 1, 1) := by decide +kernel
theorem dX9_four_16 : decode cX9_four 16 = .ok (.iload_n 2, 1) := by decide +kernel
theorem dX9_four_17 : decode cX9_four 17 = .ok (.ishr, 1) := by decide +kernel
theorem dX9_four_18 : decode cX9_four 18 = .ok (.i2b, 1) := by decide +kernel
theorem dX9_four_19 : decode cX9_four 19 = .ok (.bastore, 1) := by decide +kernel
theorem dX9_four_20 : decode cX9_four 20 = .ok (.aload_n 0, 1) := by decide +kernel
theorem dX9_four_21 : decode cX9_four 21 = .ok (.dup, 1) := by decide +kernel
theorem dX9_four_22 : decode cX9_four 22 = .ok (.getfield 112, 3) := by decide +kernel
theorem dX9_four_25 : decode cX9_four 25 = .ok (.iconst 1, 1) := by decide +kernel
theorem dX9_four_26 : decode cX9_four 26 = .ok (.iadd, 1) := by decide +kernel
theorem dX9_four_27 : decode cX9_four 27 = .ok (.putfield 112, 3) := by decide +kernel
theorem dX9_four_30 : decode cX9_four 30 = .ok (.iinc 2 (-8), 3) := by decide +kernel
theorem dX9_four_33 : decode cX9_four 33 = .ok (.goto (-30), 3) := by decide +kernel
theorem dX9_four_36 : decode cX9_four 36 = .ok (.return_, 1) := by decide +kernel
theorem dX9_end_0 : decode cX9_end 0 = .ok (.aload_n 0, 1) := by decide +kernel
theorem dX9_end_1 : decode cX9_end 1 = .ok (.iconst 0, 1) := by decide +kernel
theorem dX9_end_2 : decode cX9_end 2 = .ok (.putfield 95, 3) := by decide +kernel
theorem dX9_end_5 : decode cX9_end 5 = .ok (.iload_n 1, 1) := by decide +kernel
theorem dX9_end_6 : decode cX9_end 6 = .ok (.i2l, 1) := by decide +kernel
theorem dX9_end_7 : decode cX9_end 7 = .ok (.lconst 0, 1) := by decide +kernel
theorem dX9_end_8 : decode cX9_end 8 = .ok (.aload_n 0, 1) := by decide +kernel
theorem dX9_end_9 : decode cX9_end 9 = .ok (.getfield 112, 3) := by decide +kernel
theorem dX9_end_12 : decode cX9_end 12 = .ok (.i2l, 1) := by decide +kernel
theorem dX9_end_13 : decode cX9_end 13 = .ok (.invokestatic 100, 3) := by decide +kernel
theorem dX9_end_16 : decode cX9_end 16 = .ok (.ifCond .ne 5, 3) := by decide +kernel
theorem dX9_end_19 : decode cX9_end 19 = .ok (.iconst (-1), 1) := by decide +kernel
theorem dX9_end_20 : decode cX9_end 20 = .ok (.ireturn, 1) := by decide +kernel
theorem dX9_end_21 : decode cX9_end 21 = .ok (.aload_n 0, 1) := by decide +kernel
theorem dX9_end_22 : decode cX9_end 22 = .ok (.iload_n 1, 1) := by decide +kernel
theorem dX9_end_23 : decode cX9_end 23 = .ok (.putfield 112, 3) := by decide +kernel
theorem dX9_end_26 : decode cX9_end 26 = .ok (.iload_n 1, 1) := by decide +kernel
theorem dX9_end_27 : decode cX9_end 27 = .ok (.ireturn, 1) := by decide +kernel
theorem dX9_isByte_0 : decode cX9_isByte 0 = .ok (.iload_n 1, 1) := by decide +kernel
theorem dX9_isByte_1 : decode cX9_isByte 1 = .ok (.aload_n 0, 1) := by decide +kernel
theorem dX9_isByte_2 : decode cX9_isByte 2 = .ok (.getfield 112, 3) := by decide +kernel
theorem dX9_isByte_5 : decode cX9_isByte 5 = .ok (.if_icmp .ge 27, 3) := by decide +kernel
theorem dX9_isByte_8 : decode cX9_isByte 8 = .ok (.aload_n 0, 1) := by decide +kernel
theorem dX9_isByte_9 : decode cX9_isByte 9 = .ok (.getfield 23, 3) := by decide +kernel
theorem dX9_isByte_12 : decode cX9_isByte 12 = .ok (.iload_n 1, 1) := by decide +kernel
theorem dX9_isByte_13 : decode cX9_isByte 13 = .ok (.baload, 1) := by decide +kernel
theorem dX9_isByte_14 : decode cX9_isByte 14 = .ok (.iload_n 2, 1) := by decide +kernel
theorem dX9_isByte_15 : decode cX9_isByte 15 = .ok (.if_icmp .lt 17, 3) := by decide +kernel
theorem dX9_isByte_18 : decode cX9_isByte 18 = .ok (.aload_n 0, 1) := by decide +kernel
theorem dX9_isByte_19 : decode cX9_isByte 19 = .ok (.getfield 23, 3) := by decide +kernel
theorem dX9_isByte_22 : decode cX9_isByte 22 = .ok (.iload_n 1, 1) := by decide +kernel
theorem dX9_isByte_23 : decode cX9_isByte 23 = .ok (.baload, 1) := by decide +kernel
theorem dX9_isByte_24 : decode cX9_isByte 24 = .ok (.iload_n 3, 1) := by decide +kernel
theorem dX9_isByte_25 : decode cX9_isByte 25 = .ok (.if_icmp .gt 7, 3) := by decide +kernel
theorem dX9_isByte_28 : decode cX9_isByte 28 = .ok (.iconst 1, 1) := by decide +kernel
theorem dX9_isByte_29 : decode cX9_isByte 29 = .ok (.goto 4, 3) := by decide +kernel
theorem dX9_isByte_32 : decode cX9_isByte 32 = .ok (.iconst 0, 1) := by decide +kernel
theorem dX9_isByte_33 : decode cX9_isByte 33 = .ok (.ireturn, 1) := by decide +kernel
theorem dX9_next_0 : decode cX9_next 0 = .ok (.aload_n 0, 1) := by decide +kernel
theorem dX9_next_1 : decode cX9_next 1 = .ok (.aload_n 0, 1) := by decide +kernel
theorem dX9_next_2 : decode cX9_next 2 = .ok (.getfield 119, 3) := by decide +kernel
theorem dX9_next_5 : decode cX9_next 5 = .ok (.bipush 32, 2) := by decide +kernel
theorem dX9_next_7 : decode cX9_next 7 = .ok (.bipush 32, 2) := by decide +kernel
theorem dX9_next_9 : decode cX9_next 9 = .ok (.invokevirtual 122, 3) := by decide +kernel
theorem dX9_next_12 : decode cX9_next 12 = .ok (.ifCond .ne 18, 3) := by decide +kernel
theorem dX9_next_15 : decode cX9_next 15 = .ok (.aload_n 0, 1) := by decide +kernel
theorem dX9_next_16 : decode cX9_next 16 = .ok (.aload_n 0, 1) := by decide +kernel
theorem dX9_next_17 : decode cX9_next 17 = .ok (.getfield 119, 3) := by decide +kernel
theorem dX9_next_20 : decode cX9_next 20 = .ok (.bipush 10, 2) := by decide +kernel
theorem dX9_next_22 : decode cX9_next 22 = .ok (.bipush 10, 2) := by decide +kernel
theorem dX9_next_24 : decode cX9_next 24 = .ok (.invokevirtual 122, 3) := by decide +kernel
theorem dX9_next_27 : decode cX9_next 27 = .ok (.ifCond .eq 16, 3) := by decide +kernel
theorem dX9_next_30 : decode cX9_next 30 = .ok (.aload_n 0, 1) := by decide +kernel
theorem dX9_next_31 : decode cX9_next 31 = .ok (.dup, 1) := by decide +kernel
theorem dX9_next_32 : decode cX9_next 32 = .ok (.getfield 119, 3) := by decide +kernel
theorem dX9_next_35 : decode cX9_next 35 = .ok (.iconst 1, 1) := by decide +kernel
theorem dX9_next_36 : decode cX9_next 36 = .ok (.iadd, 1) := by decide +kernel
theorem dX9_next_37 : decode cX9_next 37 = .ok (.putfield 119, 3) := by decide +kernel
theorem dX9_next_40 : decode cX9_next 40 = .ok (.goto (-40), 3) := by decide +kernel
theorem dX9_next_43 : decode cX9_next 43 = .ok (.aload_n 0, 1) := by decide +kernel
theorem dX9_next_44 : decode cX9_next 44 = .ok (.aload_n 0, 1) := by decide +kernel
theorem dX9_next_45 : decode cX9_next 45 = .ok (.getfield 119, 3) := by decide +kernel
theorem dX9_next_48 : decode cX9_next 48 = .ok (.putfield 126, 3) := by decide +kernel
theorem dX9_next_51 : decode cX9_next 51 = .ok (.aload_n 0, 1) := by decide +kernel
theorem dX9_next_52 : decode cX9_next 52 = .ok (.iconst 0, 1) := by decide +kernel
theorem dX9_next_53 : decode cX9_next 53 = .ok (.putfield 129, 3) := by decide +kernel
theorem dX9_next_56 : decode cX9_next 56 = .ok (.aload_n 0, 1) := by decide +kernel
theorem dX9_next_57 : decode cX9_next 57 = .ok (.lconst 0, 1) := by decide +kernel
theorem dX9_next_58 : decode cX9_next 58 = .ok (.putfield 132, 3) := by decide +kernel
theorem dX9_next_61 : decode cX9_next 61 = .ok (.aload_n 0, 1) := by decide +kernel
theorem dX9_next_62 : decode cX9_next 62 = .ok (.getfield 119, 3) := by decide +kernel
theorem dX9_next_65 : decode cX9_next 65 = .ok (.aload_n 0, 1) := by decide +kernel
theorem dX9_next_66 : decode cX9_next 66 = .ok (.getfield 112, 3) := by decide +kernel
theorem dX9_next_69 : decode cX9_next 69 = .ok (.if_icmp .ne 11, 3) := by decide +kernel
theorem dX9_next_72 : decode cX9_next 72 = .ok (.aload_n 0, 1) := by decide +kernel
theorem dX9_next_73 : decode cX9_next 73 = .ok (.iconst 0, 1) := by decide +kernel
theorem dX9_next_74 : decode cX9_next 74 = .ok (.putfield 136, 3) := by decide +kernel
theorem dX9_next_77 : decode cX9_next 77 = .ok (.goto 230, 3) := by decide +kernel
theorem dX9_next_80 : decode cX9_next 80 = .ok (.aload_n 0, 1) := by decide +kernel
theorem dX9_next_81 : decode cX9_next 81 = .ok (.aload_n 0, 1) := by decide +kernel
theorem dX9_next_82 : decode cX9_next 82 = .ok (.getfield 119, 3) := by decide +kernel
theorem dX9_next_85 : decode cX9_next 85 = .ok (.bipush 97, 2) := by decide +kernel
theorem dX9_next_87 : decode cX9_next 87 = .ok (.bipush 122, 2) := by decide +kernel
theorem dX9_next_89 : decode cX9_next 89 = .ok (.invokevirtual 122, 3) := by decide +kernel
theorem dX9_next_92 : decode cX9_next 92 = .ok (.ifCond .eq 96, 3) := by decide +kernel
theorem dX9_next_95 : decode cX9_next 95 = .ok (.aload_n 0, 1) := by decide +kernel
theorem dX9_next_96 : decode cX9_next 96 = .ok (.iconst 1, 1) := by decide +kernel
theorem dX9_next_97 : decode cX9_next 97 = .ok (.putfield 136, 3) := by decide +kernel
theorem dX9_next_100 : decode cX9_next 100 = .ok (.iconst 0, 1) := by decide +kernel
theorem dX9_next_101 : decode cX9_next 101 = .ok (.istore_n 1, 1) := by decide +kernel
theorem dX9_next_102 : decode cX9_next 102 = .ok (.aload_n 0, 1) := by decide +kernel
theorem dX9_next_103 : decode cX9_next 103 = .ok (.aload_n 0, 1) := by decide +kernel
theorem dX9_next_104 : decode cX9_next 104 = .ok (.getfield 119, 3) := by decide +kernel
theorem dX9_next_107 : decode cX9_next 107 = .ok (.bipush 97, 2) := by decide +kernel
theorem dX9_next_109 : decode cX9_next 109 = .ok (.bipush 122, 2) := by decide +kernel
theorem dX9_next_111 : decode cX9_next 111 = .ok (.invokevirtual 122, 3) := by decide +kernel
theorem dX9_next_114 : decode cX9_next 114 = .ok (.ifCond .eq 71, 3) := by decide +kernel
theorem dX9_next_117 : decode cX9_next 117 = .ok (.aload_n 0, 1) := by decide +kernel
theorem dX9_next_118 : decode cX9_next 118 = .ok (.iload_n 1, 1) := by decide +kernel
theorem dX9_next_119 : decode cX9_next 119 = .ok (.bipush 11, 2) := by decide +kernel
theorem dX9_next_121 : decode cX9_next 121 = .ok (.if_icmp .le 9, 3) := by decide +kernel
theorem dX9_next_124 : decode cX9_next 124 = .ok (.ldc2_w 139, 3) := by decide +kernel
theorem dX9_next_127 : decode cX9_next 127 = .ok (.goto 26, 3) := by decide +kernel
theorem dX9_next_130 : decode cX9_next 130 = .ok (.ldc2_w 141, 3) := by decide +kernel
theorem dX9_next_133 : decode cX9_next 133 = .ok (.aload_n 0, 1) := by decide +kernel
theorem dX9_next_134 : decode cX9_next 134 = .ok (.getfield 132, 3) := by decide +kernel
theorem dX9_next_137 : decode cX9_next 137 = .ok (.lmul, 1) := by decide +kernel
theorem dX9_next_138 : decode cX9_next 138 = .ok (.aload_n 0, 1) := by decide +kernel
theorem dX9_next_139 : decode cX9_next 139 = .ok (.getfield 23, 3) := by decide +kernel
theorem dX9_next_142 : decode cX9_next 142 = .ok (.aload_n 0, 1) := by decide +kernel
theorem dX9_next_143 : decode cX9_next 143 = .ok (.getfield 119, 3) := by decide +kernel
theorem dX9_next_146 : decode cX9_next 146 = .ok (.baload, 1) := by decide +kernel
theorem dX9_next_147 : decode cX9_next 147 = .ok (.i2l, 1) := by decide +kernel
theorem dX9_next_148 : decode cX9_next 148 = .ok (.ladd, 1) := by decide +kernel
theorem dX9_next_149 : decode cX9_next 149 = .ok (.ldc2_w 143, 3) := by decide +kernel
theorem dX9_next_152 : decode cX9_next 152 = .ok (.lsub, 1) := by decide +kernel
theorem dX9_next_153 : decode cX9_next 153 = .ok (.putfield 132, 3) := by decide +kernel
theorem dX9_next_156 : decode cX9_next 156 = .ok (.iload_n 1, 1) := by decide +kernel
theorem dX9_next_157 : decode cX9_next 157 = .ok (.bipush 11, 2) := by decide +kernel
theorem dX9_next_159 : decode cX9_next 159 = .ok (.if_icmp .le 10, 3) := by decide +kernel
theorem dX9_next_162 : decode cX9_next 162 = .ok (.aload_n 0, 1) := by decide +kernel
theorem dX9_next_163 : decode cX9_next 163 = .ok (.ldc2_w 139, 3) := by decide +kernel
theorem dX9_next_166 : decode cX9_next 166 = .ok (.putfield 132, 3) := by decide +kernel
theorem dX9_next_169 : decode cX9_next 169 = .ok (.aload_n 0, 1) := by decide +kernel
theorem dX9_next_170 : decode cX9_next 170 = .ok (.dup, 1) := by decide +kernel
theorem dX9_next_171 : decode cX9_next 171 = .ok (.getfield 119, 3) := by decide +kernel
theorem dX9_next_174 : decode cX9_next 174 = .ok (.iconst 1, 1) := by decide +kernel
theorem dX9_next_175 : decode cX9_next 175 = .ok (.iadd, 1) := by decide +kernel
theorem dX9_next_176 : decode cX9_next 176 = .ok (.putfield 119, 3) := by decide +kernel
theorem dX9_next_179 : decode cX9_next 179 = .ok (.iinc 1 1, 3) := by decide +kernel
theorem dX9_next_182 : decode cX9_next 182 = .ok (.goto (-80), 3) := by decide +kernel
theorem dX9_next_185 : decode cX9_next 185 = .ok (.goto 122, 3) := by decide +kernel
theorem dX9_next_188 : decode cX9_next 188 = .ok (.aload_n 0, 1) := by decide +kernel
theorem dX9_next_189 : decode cX9_next 189 = .ok (.aload_n 0, 1) := by decide +kernel
theorem dX9_next_190 : decode cX9_next 190 = .ok (.getfield 119, 3) := by decide +kernel
theorem dX9_next_193 : decode cX9_next 193 = .ok (.bipush 48, 2) := by decide +kernel
theorem dX9_next_195 : decode cX9_next 195 = .ok (.bipush 57, 2) := by decide +kernel
theorem dX9_next_197 : decode cX9_next 197 = .ok (.invokevirtual 122, 3) := by decide +kernel
theorem dX9_next_200 : decode cX9_next 200 = .ok (.ifCond .eq 74, 3) := by decide +kernel
theorem dX9_next_203 : decode cX9_next 203 = .ok (.aload_n 0, 1) := by decide +kernel
theorem dX9_next_204 : decode cX9_next 204 = .ok (.iconst 2, 1) := by decide +kernel
theorem dX9_next_205 : decode cX9_next 205 = .ok (.putfield 136, 3) := by decide +kernel
theorem dX9_next_208 : decode cX9_next 208 = .ok (.aload_n 0, 1) := by decide +kernel
theorem dX9_next_209 : decode cX9_next 209 = .ok (.aload_n 0, 1) := by decide +kernel
theorem dX9_next_210 : decode cX9_next 210 = .ok (.getfield 119, 3) := by decide +kernel
theorem dX9_next_213 : decode cX9_next 213 = .ok (.bipush 48, 2) := by decide +kernel
theorem dX9_next_215 : decode cX9_next 215 = .ok (.bipush 57, 2) := by decide +kernel
theorem dX9_next_217 : decode cX9_next 217 = .ok (.invokevirtual 122, 3) := by decide +kernel
theorem dX9_next_220 : decode cX9_next 220 = .ok (.ifCond .eq 87, 3) := by decide +kernel
theorem dX9_next_223 : decode cX9_next 223 = .ok (.aload_n 0, 1) := by decide +kernel
theorem dX9_next_224 : decode cX9_next 224 = .ok (.aload_n 0, 1) := by decide +kernel
theorem dX9_next_225 : decode cX9_next 225 = .ok (.getfield 129, 3) := by decide +kernel
theorem dX9_next_228 : decode cX9_next 228 = .ok (.ldc 145, 2) := by decide +kernel
theorem dX9_next_230 : decode cX9_next 230 = .ok (.if_icmp .le 8, 3) := by decide +kernel
theorem dX9_next_233 : decode cX9_next 233 = .ok (.ldc 146, 2) := by decide +kernel
theorem dX9_next_235 : decode cX9_next 235 = .ok (.goto 23, 3) := by decide +kernel
theorem dX9_next_238 : decode cX9_next 238 = .ok (.bipush 10, 2) := by decide +kernel
theorem dX9_next_240 : decode cX9_next 240 = .ok (.aload_n 0, 1) := by decide +kernel
theorem dX9_next_241 : decode cX9_next 241 = .ok (.getfield 129, 3) := by decide +kernel
theorem dX9_next_244 : decode cX9_next 244 = .ok (.imul, 1) := by decide +kernel
theorem dX9_next_245 : decode cX9_next 245 = .ok (.aload_n 0, 1) := by decide +kernel
theorem dX9_next_246 : decode cX9_next 246 = .ok (.getfield 23, 3) := by decide +kernel
theorem dX9_next_249 : decode cX9_next 249 = .ok (.aload_n 0, 1) := by decide +kernel
theorem dX9_next_250 : decode cX9_next 250 = .ok (.getfield 119, 3) := by decide +kernel
theorem dX9_next_253 : decode cX9_next 253 = .ok (.baload, 1) := by decide +kernel
theorem dX9_next_254 : decode cX9_next 254 = .ok (.iadd, 1) := by decide +kernel
theorem dX9_next_255 : decode cX9_next 255 = .ok (.bipush 48, 2) := by decide +kernel
theorem dX9_next_257 : decode cX9_next 257 = .ok (.isub, 1) := by decide +kernel
theorem dX9_next_258 : decode cX9_next 258 = .ok (.putfield 129, 3) := by decide +kernel
theorem dX9_next_261 : decode cX9_next 261 = .ok (.aload_n 0, 1) := by decide +kernel
theorem dX9_next_262 : decode cX9_next 262 = .ok (.dup, 1) := by decide +kernel
theorem dX9_next_263 : decode cX9_next 263 = .ok (.getfield 119, 3) := by decide +kernel
theorem dX9_next_266 : decode cX9_next 266 = .ok (.iconst 1, 1) := by decide +kernel
theorem dX9_next_267 : decode cX9_next 267 = .ok (.iadd, 1) := by decide +kernel
theorem dX9_next_268 : decode cX9_next 268 = .ok (.putfield 119, 3) := by decide +kernel
theorem dX9_next_271 : decode cX9_next 271 = .ok (.goto (-63), 3) := by decide +kernel
theorem dX9_next_274 : decode cX9_next 274 = .ok (.aload_n 0, 1) := by decide +kernel
theorem dX9_next_275 : decode cX9_next 275 = .ok (.aload_n 0, 1) := by decide +kernel
theorem dX9_next_276 : decode cX9_next 276 = .ok (.getfield 23, 3) := by decide +kernel
theorem dX9_next_279 : decode cX9_next 279 = .ok (.aload_n 0, 1) := by decide +kernel
theorem dX9_next_280 : decode cX9_next 280 = .ok (.getfield 119, 3) := by decide +kernel
theorem dX9_next_283 : decode cX9_next 283 = .ok (.baload, 1) := by decide +kernel
theorem dX9_next_284 : decode cX9_next 284 = .ok (.bipush 59, 2) := by decide +kernel
theorem dX9_next_286 : decode cX9_next 286 = .ok (.if_icmp .ne 7, 3) := by decide +kernel
theorem dX9_next_289 : decode cX9_next 289 = .ok (.iconst 3, 1) := by decide +kernel
theorem dX9_next_290 : decode cX9_next 290 = .ok (.goto 4, 3) := by decide +kernel
theorem dX9_next_293 : decode cX9_next 293 = .ok (.iconst 4, 1) := by decide +kernel
theorem dX9_next_294 : decode cX9_next 294 = .ok (.putfield 136, 3) := by decide +kernel
theorem dX9_next_297 : decode cX9_next 297 = .ok (.aload_n 0, 1) := by decide +kernel
theorem dX9_next_298 : decode cX9_next 298 = .ok (.dup, 1) := by decide +kernel
theorem dX9_next_299 : decode cX9_next 299 = .ok (.getfield 119, 3) := by decide +kernel
theorem dX9_next_302 : decode cX9_next 302 = .ok (.iconst 1, 1) := by decide +kernel
theorem dX9_next_303 : decode cX9_next 303 = .ok (.iadd, 1) := by decide +kernel
theorem dX9_next_304 : decode cX9_next 304 = .ok (.putfield 119, 3) := by decide +kernel
theorem dX9_next_307 : decode cX9_next 307 = .ok (.return_, 1) := by decide +kernel
theorem dX9_isGood_0 : decode cX9_isGood 0 = .ok (.aload_n 0, 1) := by decide +kernel
theorem dX9_isGood_1 : decode cX9_isGood 1 = .ok (.getfield 147, 3) := by decide +kernel
theorem dX9_isGood_4 : decode cX9_isGood 4 = .ok (.ifCond .ne 7, 3) := by decide +kernel
theorem dX9_isGood_7 : decode cX9_isGood 7 = .ok (.iconst 1, 1) := by decide +kernel
theorem dX9_isGood_8 : decode cX9_isGood 8 = .ok (.goto 4, 3) := by decide +kernel
theorem dX9_isGood_11 : decode cX9_isGood 11 = .ok (.iconst 0, 1) := by decide +kernel
theorem dX9_isGood_12 : decode cX9_isGood 12 = .ok (.ireturn, 1) := by decide +kernel
theorem dX9_fails_0 : decode cX9_fails 0 = .ok (.aload_n 0, 1) := by decide +kernel
theorem dX9_fails_1 : decode cX9_fails 1 = .ok (.getfield 147, 3) := by decide +kernel
theorem dX9_fails_4 : decode cX9_fails 4 = .ok (.ifCond .eq 4, 3) := by decide +kernel
theorem dX9_fails_7 : decode cX9_fails 7 = .ok (.return_, 1) := by decide +kernel
theorem dX9_fails_8 : decode cX9_fails 8 = .ok (.aload_n 0, 1) := by decide +kernel
theorem dX9_fails_9 : decode cX9_fails 9 = .ok (.iload_n 1, 1) := by decide +kernel
theorem dX9_fails_10 : decode cX9_fails 10 = .ok (.putfield 147, 3) := by decide +kernel
theorem dX9_fails_13 : decode cX9_fails 13 = .ok (.aload_n 0, 1) := by decide +kernel
theorem dX9_fails_14 : decode cX9_fails 14 = .ok (.aload_n 0, 1) := by decide +kernel
theorem dX9_fails_15 : decode cX9_fails 15 = .ok (.getfield 126, 3) := by decide +kernel
theorem dX9_fails_18 : decode cX9_fails 18 = .ok (.putfield 150, 3) := by decide +kernel
theorem dX9_fails_21 : decode cX9_fails 21 = .ok (.return_, 1) := by decide +kernel
theorem dX9_is_0 : decode cX9_is 0 = .ok (.aload_n 0, 1) := by decide +kernel
theorem dX9_is_1 : decode cX9_is 1 = .ok (.getfield 147, 3) := by decide +kernel
theorem dX9_is_4 : decode cX9_is 4 = .ok (.ifCond .ne 24, 3) := by decide +kernel
theorem dX9_is_7 : decode cX9_is 7 = .ok (.aload_n 0, 1) := by decide +kernel
theorem dX9_is_8 : decode cX9_is 8 = .ok (.getfield 136, 3) := by decide +kernel
theorem dX9_is_11 : decode cX9_is 11 = .ok (.iconst 1, 1) := by decide +kernel
theorem dX9_is_12 : decode cX9_is 12 = .ok (.if_icmp .ne 16, 3) := by decide +kernel
theorem dX9_is_15 : decode cX9_is 15 = .ok (.aload_n 0, 1) := by decide +kernel
theorem dX9_is_16 : decode cX9_is 16 = .ok (.getfield 132, 3) := by decide +kernel
theorem dX9_is_19 : decode cX9_is 19 = .ok (.lload_n 1, 1) := by decide +kernel
theorem dX9_is_20 : decode cX9_is 20 = .ok (.lcmp, 1) := by decide +kernel
theorem dX9_is_21 : decode cX9_is 21 = .ok (.ifCond .ne 7, 3) := by decide +kernel
theorem dX9_is_24 : decode cX9_is 24 = .ok (.iconst 1, 1) := by decide +kernel
theorem dX9_is_25 : decode cX9_is 25 = .ok (.goto 4, 3) := by decide +kernel
theorem dX9_is_28 : decode cX9_is 28 = .ok (.iconst 0, 1) := by decide +kernel
theorem dX9_is_29 : decode cX9_is 29 = .ok (.ireturn, 1) := by decide +kernel
theorem dX9_takes_0 : decode cX9_takes 0 = .ok (.aload_n 0, 1) := by decide +kernel
theorem dX9_takes_1 : decode cX9_takes 1 = .ok (.lload_n 1, 1) := by decide +kernel
theorem dX9_takes_2 : decode cX9_takes 2 = .ok (.invokevirtual 153, 3) := by decide +kernel
theorem dX9_takes_5 : decode cX9_takes 5 = .ok (.ifCond .ne 5, 3) := by decide +kernel
theorem dX9_takes_8 : decode cX9_takes 8 = .ok (.iconst 0, 1) := by decide +kernel
theorem dX9_takes_9 : decode cX9_takes 9 = .ok (.ireturn, 1) := by decide +kernel
theorem dX9_takes_10 : decode cX9_takes 10 = .ok (.aload_n 0, 1) := by decide +kernel
theorem dX9_takes_11 : decode cX9_takes 11 = .ok (.invokevirtual 157, 3) := by decide +kernel
theorem dX9_takes_14 : decode cX9_takes 14 = .ok (.iconst 1, 1) := by decide +kernel
theorem dX9_takes_15 : decode cX9_takes 15 = .ok (.ireturn, 1) := by decide +kernel
theorem dX9_asks_0 : decode cX9_asks 0 = .ok (.aload_n 0, 1) := by decide +kernel
theorem dX9_asks_1 : decode cX9_asks 1 = .ok (.lload_n 1, 1) := by decide +kernel
theorem dX9_asks_2 : decode cX9_asks 2 = .ok (.invokevirtual 160, 3) := by decide +kernel
theorem dX9_asks_5 : decode cX9_asks 5 = .ok (.ifCond .ne 8, 3) := by decide +kernel
theorem dX9_asks_8 : decode cX9_asks 8 = .ok (.aload_n 0, 1) := by decide +kernel
theorem dX9_asks_9 : decode cX9_asks 9 = .ok (.iconst 1, 1) := by decide +kernel
theorem dX9_asks_10 : decode cX9_asks 10 = .ok (.invokevirtual 163, 3) := by decide +kernel
theorem dX9_asks_13 : decode cX9_asks 13 = .ok (.return_, 1) := by decide +kernel
theorem dX9_number_0 : decode cX9_number 0 = .ok (.aload_n 0, 1) := by decide +kernel
theorem dX9_number_1 : decode cX9_number 1 = .ok (.getfield 147, 3) := by decide +kernel
theorem dX9_number_4 : decode cX9_number 4 = .ok (.ifCond .eq 5, 3) := by decide +kernel
theorem dX9_number_7 : decode cX9_number 7 = .ok (.iload_n 1, 1) := by decide +kernel
theorem dX9_number_8 : decode cX9_number 8 = .ok (.ireturn, 1) := by decide +kernel
theorem dX9_number_9 : decode cX9_number 9 = .ok (.aload_n 0, 1) := by decide +kernel
theorem dX9_number_10 : decode cX9_number 10 = .ok (.getfield 136, 3) := by decide +kernel
theorem dX9_number_13 : decode cX9_number 13 = .ok (.iconst 2, 1) := by decide +kernel
theorem dX9_number_14 : decode cX9_number 14 = .ok (.if_icmp .eq 10, 3) := by decide +kernel
theorem dX9_number_17 : decode cX9_number 17 = .ok (.aload_n 0, 1) := by decide +kernel
theorem dX9_number_18 : decode cX9_number 18 = .ok (.iconst 1, 1) := by decide +kernel
theorem dX9_number_19 : decode cX9_number 19 = .ok (.invokevirtual 163, 3) := by decide +kernel
theorem dX9_number_22 : decode cX9_number 22 = .ok (.iload_n 1, 1) := by decide +kernel
theorem dX9_number_23 : decode cX9_number 23 = .ok (.ireturn, 1) := by decide +kernel
theorem dX9_number_24 : decode cX9_number 24 = .ok (.aload_n 0, 1) := by decide +kernel
theorem dX9_number_25 : decode cX9_number 25 = .ok (.getfield 129, 3) := by decide +kernel
theorem dX9_number_28 : decode cX9_number 28 = .ok (.i2l, 1) := by decide +kernel
theorem dX9_number_29 : decode cX9_number 29 = .ok (.iload_n 1, 1) := by decide +kernel
theorem dX9_number_30 : decode cX9_number 30 = .ok (.i2l, 1) := by decide +kernel
theorem dX9_number_31 : decode cX9_number 31 = .ok (.iload_n 2, 1) := by decide +kernel
theorem dX9_number_32 : decode cX9_number 32 = .ok (.i2l, 1) := by decide +kernel
theorem dX9_number_33 : decode cX9_number 33 = .ok (.invokestatic 100, 3) := by decide +kernel
theorem dX9_number_36 : decode cX9_number 36 = .ok (.ifCond .ne 10, 3) := by decide +kernel
theorem dX9_number_39 : decode cX9_number 39 = .ok (.aload_n 0, 1) := by decide +kernel
theorem dX9_number_40 : decode cX9_number 40 = .ok (.iconst 2, 1) := by decide +kernel
theorem dX9_number_41 : decode cX9_number 41 = .ok (.invokevirtual 163, 3) := by decide +kernel
theorem dX9_number_44 : decode cX9_number 44 = .ok (.iload_n 1, 1) := by decide +kernel
theorem dX9_number_45 : decode cX9_number 45 = .ok (.ireturn, 1) := by decide +kernel
theorem dX9_number_46 : decode cX9_number 46 = .ok (.aload_n 0, 1) := by decide +kernel
theorem dX9_number_47 : decode cX9_number 47 = .ok (.getfield 129, 3) := by decide +kernel
theorem dX9_number_50 : decode cX9_number 50 = .ok (.istore_n 3, 1) := by decide +kernel
theorem dX9_number_51 : decode cX9_number 51 = .ok (.aload_n 0, 1) := by decide +kernel
theorem dX9_number_52 : decode cX9_number 52 = .ok (.invokevirtual 157, 3) := by decide +kernel
theorem dX9_number_55 : decode cX9_number 55 = .ok (.iload_n 3, 1) := by decide +kernel
theorem dX9_number_56 : decode cX9_number 56 = .ok (.ireturn, 1) := by decide +kernel
theorem dX9_number__0 : decode cX9_number_ 0 = .ok (.aload_n 0, 1) := by decide +kernel
theorem dX9_number__1 : decode cX9_number_ 1 = .ok (.lload_n 1, 1) := by decide +kernel
theorem dX9_number__2 : decode cX9_number_ 2 = .ok (.invokevirtual 166, 3) := by decide +kernel
theorem dX9_number__5 : decode cX9_number_ 5 = .ok (.aload_n 0, 1) := by decide +kernel
theorem dX9_number__6 : decode cX9_number_ 6 = .ok (.iload_n 3, 1) := by decide +kernel
theorem dX9_number__7 : decode cX9_number_ 7 = .ok (.iload 4, 2) := by decide +kernel
theorem dX9_number__9 : decode cX9_number_ 9 = .ok (.invokevirtual 170, 3) := by decide +kernel
theorem dX9_number__12 : decode cX9_number_ 12 = .ok (.ireturn, 1) := by decide +kernel
theorem dX9_ends_0 : decode cX9_ends 0 = .ok (.aload_n 0, 1) := by decide +kernel
theorem dX9_ends_1 : decode cX9_ends 1 = .ok (.getfield 136, 3) := by decide +kernel
theorem dX9_ends_4 : decode cX9_ends 4 = .ok (.iconst 3, 1) := by decide +kernel
theorem dX9_ends_5 : decode cX9_ends 5 = .ok (.if_icmp .eq 8, 3) := by decide +kernel
theorem dX9_ends_8 : decode cX9_ends 8 = .ok (.aload_n 0, 1) := by decide +kernel
theorem dX9_ends_9 : decode cX9_ends 9 = .ok (.iconst 1, 1) := by decide +kernel
theorem dX9_ends_10 : decode cX9_ends 10 = .ok (.invokevirtual 163, 3) := by decide +kernel
theorem dX9_ends_13 : decode cX9_ends 13 = .ok (.aload_n 0, 1) := by decide +kernel
theorem dX9_ends_14 : decode cX9_ends 14 = .ok (.getfield 147, 3) := by decide +kernel
theorem dX9_ends_17 : decode cX9_ends 17 = .ok (.ifCond .ne 7, 3) := by decide +kernel
theorem dX9_ends_20 : decode cX9_ends 20 = .ok (.aload_n 0, 1) := by decide +kernel
theorem dX9_ends_21 : decode cX9_ends 21 = .ok (.invokevirtual 157, 3) := by decide +kernel
theorem dX9_ends_24 : decode cX9_ends 24 = .ok (.return_, 1) := by decide +kernel
theorem dX9_begins_0 : decode cX9_begins 0 = .ok (.aload_n 0, 1) := by decide +kernel
theorem dX9_begins_1 : decode cX9_begins 1 = .ok (.iconst 0, 1) := by decide +kernel
theorem dX9_begins_2 : decode cX9_begins 2 = .ok (.putfield 147, 3) := by decide +kernel
theorem dX9_begins_5 : decode cX9_begins 5 = .ok (.aload_n 0, 1) := by decide +kernel
theorem dX9_begins_6 : decode cX9_begins 6 = .ok (.iconst (-1), 1) := by decide +kernel
theorem dX9_begins_7 : decode cX9_begins 7 = .ok (.putfield 150, 3) := by decide +kernel
theorem dX9_begins_10 : decode cX9_begins 10 = .ok (.aload_n 0, 1) := by decide +kernel
theorem dX9_begins_11 : decode cX9_begins 11 = .ok (.iconst 0, 1) := by decide +kernel
theorem dX9_begins_12 : decode cX9_begins 12 = .ok (.putfield 119, 3) := by decide +kernel
theorem dX9_begins_15 : decode cX9_begins 15 = .ok (.aload_n 0, 1) := by decide +kernel
theorem dX9_begins_16 : decode cX9_begins 16 = .ok (.invokevirtual 157, 3) := by decide +kernel
theorem dX9_begins_19 : decode cX9_begins 19 = .ok (.return_, 1) := by decide +kernel
theorem dX9_isOver_0 : decode cX9_isOver 0 = .ok (.aload_n 0, 1) := by decide +kernel
theorem dX9_isOver_1 : decode cX9_isOver 1 = .ok (.iconst 0, 1) := by decide +kernel
theorem dX9_isOver_2 : decode cX9_isOver 2 = .ok (.putfield 112, 3) := by decide +kernel
theorem dX9_isOver_5 : decode cX9_isOver 5 = .ok (.aload_n 0, 1) := by decide +kernel
theorem dX9_isOver_6 : decode cX9_isOver 6 = .ok (.aload_n 0, 1) := by decide +kernel
theorem dX9_isOver_7 : decode cX9_isOver 7 = .ok (.getfield 147, 3) := by decide +kernel
theorem dX9_isOver_10 : decode cX9_isOver 10 = .ok (.putfield 174, 3) := by decide +kernel
theorem dX9_isOver_13 : decode cX9_isOver 13 = .ok (.aload_n 0, 1) := by decide +kernel
theorem dX9_isOver_14 : decode cX9_isOver 14 = .ok (.aload_n 0, 1) := by decide +kernel
theorem dX9_isOver_15 : decode cX9_isOver 15 = .ok (.getfield 147, 3) := by decide +kernel
theorem dX9_isOver_18 : decode cX9_isOver 18 = .ok (.ifCond .ne 7, 3) := by decide +kernel
theorem dX9_isOver_21 : decode cX9_isOver 21 = .ok (.iconst (-1), 1) := by decide +kernel
theorem dX9_isOver_22 : decode cX9_isOver 22 = .ok (.goto 7, 3) := by decide +kernel
theorem dX9_isOver_25 : decode cX9_isOver 25 = .ok (.aload_n 0, 1) := by decide +kernel
theorem dX9_isOver_26 : decode cX9_isOver 26 = .ok (.getfield 150, 3) := by decide +kernel
theorem dX9_isOver_29 : decode cX9_isOver 29 = .ok (.putfield 27, 3) := by decide +kernel
theorem dX9_isOver_32 : decode cX9_isOver 32 = .ok (.return_, 1) := by decide +kernel
theorem dX9_fault_0 : decode cX9_fault 0 = .ok (.aload_n 0, 1) := by decide +kernel
theorem dX9_fault_1 : decode cX9_fault 1 = .ok (.iconst 0, 1) := by decide +kernel
theorem dX9_fault_2 : decode cX9_fault 2 = .ok (.putfield 95, 3) := by decide +kernel
theorem dX9_fault_5 : decode cX9_fault 5 = .ok (.iload_n 1, 1) := by decide +kernel
theorem dX9_fault_6 : decode cX9_fault 6 = .ok (.ifCond .ne 10, 3) := by decide +kernel
theorem dX9_fault_9 : decode cX9_fault 9 = .ok (.aload_n 0, 1) := by decide +kernel
theorem dX9_fault_10 : decode cX9_fault 10 = .ok (.getfield 174, 3) := by decide +kernel
theorem dX9_fault_13 : decode cX9_fault 13 = .ok (.goto 16, 3) := by decide +kernel
theorem dX9_fault_16 : decode cX9_fault 16 = .ok (.iload_n 1, 1) := by decide +kernel
theorem dX9_fault_17 : decode cX9_fault 17 = .ok (.iconst 1, 1) := by decide +kernel
theorem dX9_fault_18 : decode cX9_fault 18 = .ok (.if_icmp .ne 10, 3) := by decide +kernel
theorem dX9_fault_21 : decode cX9_fault 21 = .ok (.aload_n 0, 1) := by decide +kernel
theorem dX9_fault_22 : decode cX9_fault 22 = .ok (.getfield 27, 3) := by decide +kernel
theorem dX9_fault_25 : decode cX9_fault 25 = .ok (.goto 4, 3) := by decide +kernel
theorem dX9_fault_28 : decode cX9_fault 28 = .ok (.iconst (-1), 1) := by decide +kernel
theorem dX9_fault_29 : decode cX9_fault 29 = .ok (.ireturn, 1) := by decide +kernel
theorem dX9_many_0 : decode cX9_many 0 = .ok (.aload_n 0, 1) := by decide +kernel
theorem dX9_many_1 : decode cX9_many 1 = .ok (.getfield 34, 3) := by decide +kernel
theorem dX9_many_4 : decode cX9_many 4 = .ok (.bipush 24, 2) := by decide +kernel
theorem dX9_many_6 : decode cX9_many 6 = .ok (.iload_n 1, 1) := by decide +kernel
theorem dX9_many_7 : decode cX9_many 7 = .ok (.iadd, 1) := by decide +kernel
theorem dX9_many_8 : decode cX9_many 8 = .ok (.iaload, 1) := by decide +kernel
theorem dX9_many_9 : decode cX9_many 9 = .ok (.ireturn, 1) := by decide +kernel
theorem dX9_personLine_0 : decode cX9_personLine 0 = .ok (.iconst 3, 1) := by decide +kernel
theorem dX9_personLine_1 : decode cX9_personLine 1 = .ok (.bipush 32, 2) := by decide +kernel
theorem dX9_personLine_3 : decode cX9_personLine 3 = .ok (.aload_n 0, 1) := by decide +kernel
theorem dX9_personLine_4 : decode cX9_personLine 4 = .ok (.iconst 2, 1) := by decide +kernel
theorem dX9_personLine_5 : decode cX9_personLine 5 = .ok (.invokevirtual 177, 3) := by decide +kernel
theorem dX9_personLine_8 : decode cX9_personLine 8 = .ok (.iadd, 1) := by decide +kernel
theorem dX9_personLine_9 : decode cX9_personLine 9 = .ok (.imul, 1) := by decide +kernel
theorem dX9_personLine_10 : decode cX9_personLine 10 = .ok (.istore_n 1, 1) := by decide +kernel
theorem dX9_personLine_11 : decode cX9_personLine 11 = .ok (.aload_n 0, 1) := by decide +kernel
theorem dX9_personLine_12 : decode cX9_personLine 12 = .ok (.getfield 37, 3) := by decide +kernel
theorem dX9_personLine_15 : decode cX9_personLine 15 = .ok (.iload_n 1, 1) := by decide +kernel
theorem dX9_personLine_16 : decode cX9_personLine 16 = .ok (.aload_n 0, 1) := by decide +kernel
theorem dX9_personLine_17 : decode cX9_personLine 17 = .ok (.ldc2_w 180, 3) := by decide +kernel
theorem dX9_personLine_20 : decode cX9_personLine 20 = .ok (.iconst 1, 1) := by decide +kernel
theorem dX9_personLine_21 : decode cX9_personLine 21 = .ok (.bipush 12, 2) := by decide +kernel
theorem dX9_personLine_23 : decode cX9_personLine 23 = .ok (.invokevirtual 182, 3) := by decide +kernel
theorem dX9_personLine_26 : decode cX9_personLine 26 = .ok (.iastore, 1) := by decide +kernel
theorem dX9_personLine_27 : decode cX9_personLine 27 = .ok (.aload_n 0, 1) := by decide +kernel
theorem dX9_personLine_28 : decode cX9_personLine 28 = .ok (.ldc2_w 185, 3) := by decide +kernel
theorem dX9_personLine_31 : decode cX9_personLine 31 = .ok (.invokevirtual 153, 3) := by decide +kernel
theorem dX9_personLine_34 : decode cX9_personLine 34 = .ok (.ifCond .eq 7, 3) := by decide +kernel
theorem dX9_personLine_37 : decode cX9_personLine 37 = .ok (.iconst 0, 1) := by decide +kernel
theorem dX9_personLine_38 : decode cX9_personLine 38 = .ok (.goto 60, 3) := by decide +kernel
theorem dX9_personLine_41 : decode cX9_personLine 41 = .ok (.aload_n 0, 1) := by decide +kernel
theorem dX9_personLine_42 : decode cX9_personLine 42 = .ok (.ldc2_w 187, 3) := by decide +kernel
theorem dX9_personLine_45 : decode cX9_personLine 45 = .ok (.invokevirtual 153, 3) := by decide +kernel
theorem dX9_personLine_48 : decode cX9_personLine 48 = .ok (.ifCond .eq 7, 3) := by decide +kernel
theorem dX9_personLine_51 : decode cX9_personLine 51 = .ok (.iconst 1, 1) := by decide +kernel
theorem dX9_personLine_52 : decode cX9_personLine 52 = .ok (.goto 46, 3) := by decide +kernel
theorem dX9_personLine_55 : decode cX9_personLine 55 = .ok (.aload_n 0, 1) := by decide +kernel
theorem dX9_personLine_56 : decode cX9_personLine 56 = .ok (.ldc2_w 189, 3) := by decide +kernel
theorem dX9_personLine_59 : decode cX9_personLine 59 = .ok (.invokevirtual 153, 3) := by decide +kernel
theorem dX9_personLine_62 : decode cX9_personLine 62 = .ok (.ifCond .eq 7, 3) := by decide +kernel
theorem dX9_personLine_65 : decode cX9_personLine 65 = .ok (.iconst 2, 1) := by decide +kernel
theorem dX9_personLine_66 : decode cX9_personLine 66 = .ok (.goto 32, 3) := by decide +kernel
theorem dX9_personLine_69 : decode cX9_personLine 69 = .ok (.aload_n 0, 1) := by decide +kernel
theorem dX9_personLine_70 : decode cX9_personLine 70 = .ok (.ldc2_w 191, 3) := by decide +kernel
theorem dX9_personLine_73 : decode cX9_personLine 73 = .ok (.invokevirtual 153, 3) := by decide +kernel
theorem dX9_personLine_76 : decode cX9_personLine 76 = .ok (.ifCond .eq 7, 3) := by decide +kernel
theorem dX9_personLine_79 : decode cX9_personLine 79 = .ok (.iconst 3, 1) := by decide +kernel
theorem dX9_personLine_80 : decode cX9_personLine 80 = .ok (.goto 18, 3) := by decide +kernel
theorem dX9_personLine_83 : decode cX9_personLine 83 = .ok (.aload_n 0, 1) := by decide +kernel
theorem dX9_personLine_84 : decode cX9_personLine 84 = .ok (.ldc2_w 193, 3) := by decide +kernel
theorem dX9_personLine_87 : decode cX9_personLine 87 = .ok (.invokevirtual 153, 3) := by decide +kernel
theorem dX9_personLine_90 : decode cX9_personLine 90 = .ok (.ifCond .eq 7, 3) := by decide +kernel
theorem dX9_personLine_93 : decode cX9_personLine 93 = .ok (.iconst 4, 1) := by decide +kernel
theorem dX9_personLine_94 : decode cX9_personLine 94 = .ok (.goto 4, 3) := by decide +kernel
theorem dX9_personLine_97 : decode cX9_personLine 97 = .ok (.iconst (-1), 1) := by decide +kernel
theorem dX9_personLine_98 : decode cX9_personLine 98 = .ok (.istore_n 2, 1) := by decide +kernel
theorem dX9_personLine_99 : decode cX9_personLine 99 = .ok (.iload_n 2, 1) := by decide +kernel
theorem dX9_personLine_100 : decode cX9_personLine 100 = .ok (.iconst (-1), 1) := by decide +kernel
theorem dX9_personLine_101 : decode cX9_personLine 101 = .ok (.if_icmp .ne 8, 3) := by decide +kernel
theorem dX9_personLine_104 : decode cX9_personLine 104 = .ok (.aload_n 0, 1) := by decide +kernel
theorem dX9_personLine_105 : decode cX9_personLine 105 = .ok (.iconst 1, 1) := by decide +kernel
theorem dX9_personLine_106 : decode cX9_personLine 106 = .ok (.invokevirtual 163, 3) := by decide +kernel
theorem dX9_personLine_109 : decode cX9_personLine 109 = .ok (.aload_n 0, 1) := by decide +kernel
theorem dX9_personLine_110 : decode cX9_personLine 110 = .ok (.getfield 147, 3) := by decide +kernel
theorem dX9_personLine_113 : decode cX9_personLine 113 = .ok (.ifCond .eq 4, 3) := by decide +kernel
theorem dX9_personLine_116 : decode cX9_personLine 116 = .ok (.return_, 1) := by decide +kernel
theorem dX9_personLine_117 : decode cX9_personLine 117 = .ok (.aload_n 0, 1) := by decide +kernel
theorem dX9_personLine_118 : decode cX9_personLine 118 = .ok (.invokevirtual 157, 3) := by decide +kernel
theorem dX9_personLine_121 : decode cX9_personLine 121 = .ok (.aload_n 0, 1) := by decide +kernel
theorem dX9_personLine_122 : decode cX9_personLine 122 = .ok (.getfield 37, 3) := by decide +kernel
theorem dX9_personLine_125 : decode cX9_personLine 125 = .ok (.iload_n 1, 1) := by decide +kernel
theorem dX9_personLine_126 : decode cX9_personLine 126 = .ok (.iconst 1, 1) := by decide +kernel
theorem dX9_personLine_127 : decode cX9_personLine 127 = .ok (.iadd, 1) := by decide +kernel
theorem dX9_personLine_128 : decode cX9_personLine 128 = .ok (.iload_n 2, 1) := by decide +kernel
theorem dX9_personLine_129 : decode cX9_personLine 129 = .ok (.iastore, 1) := by decide +kernel
theorem dX9_personLine_130 : decode cX9_personLine 130 = .ok (.aload_n 0, 1) := by decide +kernel
theorem dX9_personLine_131 : decode cX9_personLine 131 = .ok (.getfield 37, 3) := by decide +kernel
theorem dX9_personLine_134 : decode cX9_personLine 134 = .ok (.iload_n 1, 1) := by decide +kernel
theorem dX9_personLine_135 : decode cX9_personLine 135 = .ok (.iconst 2, 1) := by decide +kernel
theorem dX9_personLine_136 : decode cX9_personLine 136 = .ok (.iadd, 1) := by decide +kernel
theorem dX9_personLine_137 : decode cX9_personLine 137 = .ok (.iload_n 2, 1) := by decide +kernel
theorem dX9_personLine_138 : decode cX9_personLine 138 = .ok (.iconst 4, 1) := by decide +kernel
theorem dX9_personLine_139 : decode cX9_personLine 139 = .ok (.if_icmp .ne 18, 3) := by decide +kernel
theorem dX9_personLine_142 : decode cX9_personLine 142 = .ok (.aload_n 0, 1) := by decide +kernel
theorem dX9_personLine_143 : decode cX9_personLine 143 = .ok (.iconst 0, 1) := by decide +kernel
theorem dX9_personLine_144 : decode cX9_personLine 144 = .ok (.aload_n 0, 1) := by decide +kernel
theorem dX9_personLine_145 : decode cX9_personLine 145 = .ok (.iconst 2, 1) := by decide +kernel
theorem dX9_personLine_146 : decode cX9_personLine 146 = .ok (.invokevirtual 177, 3) := by decide +kernel
theorem dX9_personLine_149 : decode cX9_personLine 149 = .ok (.iconst 1, 1) := by decide +kernel
theorem dX9_personLine_150 : decode cX9_personLine 150 = .ok (.isub, 1) := by decide +kernel
theorem dX9_personLine_151 : decode cX9_personLine 151 = .ok (.invokevirtual 170, 3) := by decide +kernel
theorem dX9_personLine_154 : decode cX9_personLine 154 = .ok (.goto 4, 3) := by decide +kernel
theorem dX9_personLine_157 : decode cX9_personLine 157 = .ok (.iconst (-1), 1) := by decide +kernel
theorem dX9_personLine_158 : decode cX9_personLine 158 = .ok (.iastore, 1) := by decide +kernel
theorem dX9_personLine_159 : decode cX9_personLine 159 = .ok (.aload_n 0, 1) := by decide +kernel
theorem dX9_personLine_160 : decode cX9_personLine 160 = .ok (.getfield 34, 3) := by decide +kernel
theorem dX9_personLine_163 : decode cX9_personLine 163 = .ok (.bipush 26, 2) := by decide +kernel
theorem dX9_personLine_165 : decode cX9_personLine 165 = .ok (.dup2, 1) := by decide +kernel
theorem dX9_personLine_166 : decode cX9_personLine 166 = .ok (.iaload, 1) := by decide +kernel
theorem dX9_personLine_167 : decode cX9_personLine 167 = .ok (.iconst 1, 1) := by decide +kernel
theorem dX9_personLine_168 : decode cX9_personLine 168 = .ok (.iadd, 1) := by decide +kernel
theorem dX9_personLine_169 : decode cX9_personLine 169 = .ok (.iastore, 1) := by decide +kernel
theorem dX9_personLine_170 : decode cX9_personLine 170 = .ok (.return_, 1) := by decide +kernel
theorem dX9_other_0 : decode cX9_other 0 = .ok (.aload_n 0, 1) := by decide +kernel
theorem dX9_other_1 : decode cX9_other 1 = .ok (.getfield 147, 3) := by decide +kernel
theorem dX9_other_4 : decode cX9_other 4 = .ok (.ifCond .ne 24, 3) := by decide +kernel
theorem dX9_other_7 : decode cX9_other 7 = .ok (.aload_n 0, 1) := by decide +kernel
theorem dX9_other_8 : decode cX9_other 8 = .ok (.getfield 136, 3) := by decide +kernel
theorem dX9_other_11 : decode cX9_other 11 = .ok (.iconst 2, 1) := by decide +kernel
theorem dX9_other_12 : decode cX9_other 12 = .ok (.if_icmp .ne 16, 3) := by decide +kernel
theorem dX9_other_15 : decode cX9_other 15 = .ok (.aload_n 0, 1) := by decide +kernel
theorem dX9_other_16 : decode cX9_other 16 = .ok (.getfield 129, 3) := by decide +kernel
theorem dX9_other_19 : decode cX9_other 19 = .ok (.iload_n 1, 1) := by decide +kernel
theorem dX9_other_20 : decode cX9_other 20 = .ok (.if_icmp .ne 8, 3) := by decide +kernel
theorem dX9_other_23 : decode cX9_other 23 = .ok (.aload_n 0, 1) := by decide +kernel
theorem dX9_other_24 : decode cX9_other 24 = .ok (.iconst 2, 1) := by decide +kernel
theorem dX9_other_25 : decode cX9_other 25 = .ok (.invokevirtual 163, 3) := by decide +kernel
theorem dX9_other_28 : decode cX9_other 28 = .ok (.aload_n 0, 1) := by decide +kernel
theorem dX9_other_29 : decode cX9_other 29 = .ok (.iconst 0, 1) := by decide +kernel
theorem dX9_other_30 : decode cX9_other 30 = .ok (.aload_n 0, 1) := by decide +kernel
theorem dX9_other_31 : decode cX9_other 31 = .ok (.iconst 2, 1) := by decide +kernel
theorem dX9_other_32 : decode cX9_other 32 = .ok (.invokevirtual 177, 3) := by decide +kernel
theorem dX9_other_35 : decode cX9_other 35 = .ok (.iconst 1, 1) := by decide +kernel
theorem dX9_other_36 : decode cX9_other 36 = .ok (.isub, 1) := by decide +kernel
theorem dX9_other_37 : decode cX9_other 37 = .ok (.invokevirtual 170, 3) := by decide +kernel
theorem dX9_other_40 : decode cX9_other 40 = .ok (.ireturn, 1) := by decide +kernel
theorem dX9_letterLine_0 : decode cX9_letterLine 0 = .ok (.bipush 8, 2) := by decide +kernel
theorem dX9_letterLine_2 : decode cX9_letterLine 2 = .ok (.bipush 96, 2) := by decide +kernel
theorem dX9_letterLine_4 : decode cX9_letterLine 4 = .ok (.aload_n 0, 1) := by decide +kernel
theorem dX9_letterLine_5 : decode cX9_letterLine 5 = .ok (.iconst 3, 1) := by decide +kernel
theorem dX9_letterLine_6 : decode cX9_letterLine 6 = .ok (.invokevirtual 177, 3) := by decide +kernel
theorem dX9_letterLine_9 : decode cX9_letterLine 9 = .ok (.iadd, 1) := by decide +kernel
theorem dX9_letterLine_10 : decode cX9_letterLine 10 = .ok (.imul, 1) := by decide +kernel
theorem dX9_letterLine_11 : decode cX9_letterLine 11 = .ok (.istore_n 1, 1) := by decide +kernel
theorem dX9_letterLine_12 : decode cX9_letterLine 12 = .ok (.aload_n 0, 1) := by decide +kernel
theorem dX9_letterLine_13 : decode cX9_letterLine 13 = .ok (.getfield 40, 3) := by decide +kernel
theorem dX9_letterLine_16 : decode cX9_letterLine 16 = .ok (.iload_n 1, 1) := by decide +kernel
theorem dX9_letterLine_17 : decode cX9_letterLine 17 = .ok (.aload_n 0, 1) := by decide +kernel
theorem dX9_letterLine_18 : decode cX9_letterLine 18 = .ok (.iconst 0, 1) := by decide +kernel
theorem dX9_letterLine_19 : decode cX9_letterLine 19 = .ok (.aload_n 0, 1) := by decide +kernel
theorem dX9_letterLine_20 : decode cX9_letterLine 20 = .ok (.iconst 2, 1) := by decide +kernel
theorem dX9_letterLine_21 : decode cX9_letterLine 21 = .ok (.invokevirtual 177, 3) := by decide +kernel
theorem dX9_letterLine_24 : decode cX9_letterLine 24 = .ok (.iconst 1, 1) := by decide +kernel
theorem dX9_letterLine_25 : decode cX9_letterLine 25 = .ok (.isub, 1) := by decide +kernel
theorem dX9_letterLine_26 : decode cX9_letterLine 26 = .ok (.invokevirtual 170, 3) := by decide +kernel
theorem dX9_letterLine_29 : decode cX9_letterLine 29 = .ok (.iastore, 1) := by decide +kernel
theorem dX9_letterLine_30 : decode cX9_letterLine 30 = .ok (.aload_n 0, 1) := by decide +kernel
theorem dX9_letterLine_31 : decode cX9_letterLine 31 = .ok (.ldc2_w 195, 3) := by decide +kernel
theorem dX9_letterLine_34 : decode cX9_letterLine 34 = .ok (.invokevirtual 166, 3) := by decide +kernel
theorem dX9_letterLine_37 : decode cX9_letterLine 37 = .ok (.aload_n 0, 1) := by decide +kernel
theorem dX9_letterLine_38 : decode cX9_letterLine 38 = .ok (.getfield 40, 3) := by decide +kernel
theorem dX9_letterLine_41 : decode cX9_letterLine 41 = .ok (.iload_n 1, 1) := by decide +kernel
theorem dX9_letterLine_42 : decode cX9_letterLine 42 = .ok (.iconst 1, 1) := by decide +kernel
theorem dX9_letterLine_43 : decode cX9_letterLine 43 = .ok (.iadd, 1) := by decide +kernel
theorem dX9_letterLine_44 : decode cX9_letterLine 44 = .ok (.aload_n 0, 1) := by decide +kernel
theorem dX9_letterLine_45 : decode cX9_letterLine 45 = .ok (.aload_n 0, 1) := by decide +kernel
theorem dX9_letterLine_46 : decode cX9_letterLine 46 = .ok (.getfield 40, 3) := by decide +kernel
theorem dX9_letterLine_49 : decode cX9_letterLine 49 = .ok (.iload_n 1, 1) := by decide +kernel
theorem dX9_letterLine_50 : decode cX9_letterLine 50 = .ok (.iaload, 1) := by decide +kernel
theorem dX9_letterLine_51 : decode cX9_letterLine 51 = .ok (.invokevirtual 197, 3) := by decide +kernel
theorem dX9_letterLine_54 : decode cX9_letterLine 54 = .ok (.iastore, 1) := by decide +kernel
theorem dX9_letterLine_55 : decode cX9_letterLine 55 = .ok (.aload_n 0, 1) := by decide +kernel
theorem dX9_letterLine_56 : decode cX9_letterLine 56 = .ok (.getfield 40, 3) := by decide +kernel
theorem dX9_letterLine_59 : decode cX9_letterLine 59 = .ok (.iload_n 1, 1) := by decide +kernel
theorem dX9_letterLine_60 : decode cX9_letterLine 60 = .ok (.iconst 2, 1) := by decide +kernel
theorem dX9_letterLine_61 : decode cX9_letterLine 61 = .ok (.iadd, 1) := by decide +kernel
theorem dX9_letterLine_62 : decode cX9_letterLine 62 = .ok (.aload_n 0, 1) := by decide +kernel
theorem dX9_letterLine_63 : decode cX9_letterLine 63 = .ok (.ldc2_w 200, 3) := by decide +kernel
theorem dX9_letterLine_66 : decode cX9_letterLine 66 = .ok (.iconst 0, 1) := by decide +kernel
theorem dX9_letterLine_67 : decode cX9_letterLine 67 = .ok (.aload_n 0, 1) := by decide +kernel
theorem dX9_letterLine_68 : decode cX9_letterLine 68 = .ok (.iconst 0, 1) := by decide +kernel
theorem dX9_letterLine_69 : decode cX9_letterLine 69 = .ok (.invokevirtual 177, 3) := by decide +kernel
theorem dX9_letterLine_72 : decode cX9_letterLine 72 = .ok (.iconst 1, 1) := by decide +kernel
theorem dX9_letterLine_73 : decode cX9_letterLine 73 = .ok (.isub, 1) := by decide +kernel
theorem dX9_letterLine_74 : decode cX9_letterLine 74 = .ok (.invokevirtual 182, 3) := by decide +kernel
theorem dX9_letterLine_77 : decode cX9_letterLine 77 = .ok (.iastore, 1) := by decide +kernel
theorem dX9_letterLine_78 : decode cX9_letterLine 78 = .ok (.aload_n 0, 1) := by decide +kernel
theorem dX9_letterLine_79 : decode cX9_letterLine 79 = .ok (.getfield 40, 3) := by decide +kernel
theorem dX9_letterLine_82 : decode cX9_letterLine 82 = .ok (.iload_n 1, 1) := by decide +kernel
theorem dX9_letterLine_83 : decode cX9_letterLine 83 = .ok (.iconst 3, 1) := by decide +kernel
theorem dX9_letterLine_84 : decode cX9_letterLine 84 = .ok (.iadd, 1) := by decide +kernel
theorem dX9_letterLine_85 : decode cX9_letterLine 85 = .ok (.aload_n 0, 1) := by decide +kernel
theorem dX9_letterLine_86 : decode cX9_letterLine 86 = .ok (.ldc2_w 180, 3) := by decide +kernel
theorem dX9_letterLine_89 : decode cX9_letterLine 89 = .ok (.iconst 1, 1) := by decide +kernel
theorem dX9_letterLine_90 : decode cX9_letterLine 90 = .ok (.bipush 99, 2) := by decide +kernel
theorem dX9_letterLine_92 : decode cX9_letterLine 92 = .ok (.invokevirtual 182, 3) := by decide +kernel
theorem dX9_letterLine_95 : decode cX9_letterLine 95 = .ok (.iastore, 1) := by decide +kernel
theorem dX9_letterLine_96 : decode cX9_letterLine 96 = .ok (.aload_n 0, 1) := by decide +kernel
theorem dX9_letterLine_97 : decode cX9_letterLine 97 = .ok (.getfield 40, 3) := by decide +kernel
theorem dX9_letterLine_100 : decode cX9_letterLine 100 = .ok (.iload_n 1, 1) := by decide +kernel
theorem dX9_letterLine_101 : decode cX9_letterLine 101 = .ok (.iconst 4, 1) := by decide +kernel
theorem dX9_letterLine_102 : decode cX9_letterLine 102 = .ok (.iadd, 1) := by decide +kernel
theorem dX9_letterLine_103 : decode cX9_letterLine 103 = .ok (.aload_n 0, 1) := by decide +kernel
theorem dX9_letterLine_104 : decode cX9_letterLine 104 = .ok (.ldc2_w 202, 3) := by decide +kernel
theorem dX9_letterLine_107 : decode cX9_letterLine 107 = .ok (.invokevirtual 160, 3) := by decide +kernel
theorem dX9_letterLine_110 : decode cX9_letterLine 110 = .ok (.ifCond .eq 13, 3) := by decide +kernel
theorem dX9_letterLine_113 : decode cX9_letterLine 113 = .ok (.aload_n 0, 1) := by decide +kernel
theorem dX9_letterLine_114 : decode cX9_letterLine 114 = .ok (.iconst 1, 1) := by decide +kernel
theorem dX9_letterLine_115 : decode cX9_letterLine 115 = .ok (.bipush 99, 2) := by decide +kernel
theorem dX9_letterLine_117 : decode cX9_letterLine 117 = .ok (.invokevirtual 170, 3) := by decide +kernel
theorem dX9_letterLine_120 : decode cX9_letterLine 120 = .ok (.goto 4, 3) := by decide +kernel
theorem dX9_letterLine_123 : decode cX9_letterLine 123 = .ok (.iconst 0, 1) := by decide +kernel
theorem dX9_letterLine_124 : decode cX9_letterLine 124 = .ok (.iastore, 1) := by decide +kernel
theorem dX9_letterLine_125 : decode cX9_letterLine 125 = .ok (.aload_n 0, 1) := by decide +kernel
theorem dX9_letterLine_126 : decode cX9_letterLine 126 = .ok (.getfield 40, 3) := by decide +kernel
theorem dX9_letterLine_129 : decode cX9_letterLine 129 = .ok (.iload_n 1, 1) := by decide +kernel
theorem dX9_letterLine_130 : decode cX9_letterLine 130 = .ok (.iconst 5, 1) := by decide +kernel
theorem dX9_letterLine_131 : decode cX9_letterLine 131 = .ok (.iadd, 1) := by decide +kernel
theorem dX9_letterLine_132 : decode cX9_letterLine 132 = .ok (.aload_n 0, 1) := by decide +kernel
theorem dX9_letterLine_133 : decode cX9_letterLine 133 = .ok (.ldc2_w 204, 3) := by decide +kernel
theorem dX9_letterLine_136 : decode cX9_letterLine 136 = .ok (.invokevirtual 160, 3) := by decide +kernel
theorem dX9_letterLine_139 : decode cX9_letterLine 139 = .ok (.ifCond .eq 18, 3) := by decide +kernel
theorem dX9_letterLine_142 : decode cX9_letterLine 142 = .ok (.aload_n 0, 1) := by decide +kernel
theorem dX9_letterLine_143 : decode cX9_letterLine 143 = .ok (.aload_n 0, 1) := by decide +kernel
theorem dX9_letterLine_144 : decode cX9_letterLine 144 = .ok (.getfield 40, 3) := by decide +kernel
theorem dX9_letterLine_147 : decode cX9_letterLine 147 = .ok (.iload_n 1, 1) := by decide +kernel
theorem dX9_letterLine_148 : decode cX9_letterLine 148 = .ok (.iconst 1, 1) := by decide +kernel
theorem dX9_letterLine_149 : decode cX9_letterLine 149 = .ok (.iadd, 1) := by decide +kernel
theorem dX9_letterLine_150 : decode cX9_letterLine 150 = .ok (.iaload, 1) := by decide +kernel
theorem dX9_letterLine_151 : decode cX9_letterLine 151 = .ok (.invokevirtual 197, 3) := by decide +kernel
theorem dX9_letterLine_154 : decode cX9_letterLine 154 = .ok (.goto 4, 3) := by decide +kernel
theorem dX9_letterLine_157 : decode cX9_letterLine 157 = .ok (.iconst (-1), 1) := by decide +kernel
theorem dX9_letterLine_158 : decode cX9_letterLine 158 = .ok (.iastore, 1) := by decide +kernel
theorem dX9_letterLine_159 : decode cX9_letterLine 159 = .ok (.aload_n 0, 1) := by decide +kernel
theorem dX9_letterLine_160 : decode cX9_letterLine 160 = .ok (.getfield 40, 3) := by decide +kernel
theorem dX9_letterLine_163 : decode cX9_letterLine 163 = .ok (.iload_n 1, 1) := by decide +kernel
theorem dX9_letterLine_164 : decode cX9_letterLine 164 = .ok (.bipush 6, 2) := by decide +kernel
theorem dX9_letterLine_166 : decode cX9_letterLine 166 = .ok (.iadd, 1) := by decide +kernel
theorem dX9_letterLine_167 : decode cX9_letterLine 167 = .ok (.aload_n 0, 1) := by decide +kernel
theorem dX9_letterLine_168 : decode cX9_letterLine 168 = .ok (.ldc2_w 206, 3) := by decide +kernel
theorem dX9_letterLine_171 : decode cX9_letterLine 171 = .ok (.invokevirtual 160, 3) := by decide +kernel
theorem dX9_letterLine_174 : decode cX9_letterLine 174 = .ok (.ifCond .eq 13, 3) := by decide +kernel
theorem dX9_letterLine_177 : decode cX9_letterLine 177 = .ok (.aload_n 0, 1) := by decide +kernel
theorem dX9_letterLine_178 : decode cX9_letterLine 178 = .ok (.iconst 0, 1) := by decide +kernel
theorem dX9_letterLine_179 : decode cX9_letterLine 179 = .ok (.bipush 99, 2) := by decide +kernel
theorem dX9_letterLine_181 : decode cX9_letterLine 181 = .ok (.invokevirtual 170, 3) := by decide +kernel
theorem dX9_letterLine_184 : decode cX9_letterLine 184 = .ok (.goto 4, 3) := by decide +kernel
theorem dX9_letterLine_187 : decode cX9_letterLine 187 = .ok (.iconst 0, 1) := by decide +kernel
theorem dX9_letterLine_188 : decode cX9_letterLine 188 = .ok (.iastore, 1) := by decide +kernel
theorem dX9_letterLine_189 : decode cX9_letterLine 189 = .ok (.aload_n 0, 1) := by decide +kernel
theorem dX9_letterLine_190 : decode cX9_letterLine 190 = .ok (.getfield 40, 3) := by decide +kernel
theorem dX9_letterLine_193 : decode cX9_letterLine 193 = .ok (.iload_n 1, 1) := by decide +kernel
theorem dX9_letterLine_194 : decode cX9_letterLine 194 = .ok (.bipush 7, 2) := by decide +kernel
theorem dX9_letterLine_196 : decode cX9_letterLine 196 = .ok (.iadd, 1) := by decide +kernel
theorem dX9_letterLine_197 : decode cX9_letterLine 197 = .ok (.aload_n 0, 1) := by decide +kernel
theorem dX9_letterLine_198 : decode cX9_letterLine 198 = .ok (.ldc2_w 208, 3) := by decide +kernel
theorem dX9_letterLine_201 : decode cX9_letterLine 201 = .ok (.invokevirtual 160, 3) := by decide +kernel
theorem dX9_letterLine_204 : decode cX9_letterLine 204 = .ok (.ifCond .eq 18, 3) := by decide +kernel
theorem dX9_letterLine_207 : decode cX9_letterLine 207 = .ok (.aload_n 0, 1) := by decide +kernel
theorem dX9_letterLine_208 : decode cX9_letterLine 208 = .ok (.iconst 0, 1) := by decide +kernel
theorem dX9_letterLine_209 : decode cX9_letterLine 209 = .ok (.aload_n 0, 1) := by decide +kernel
theorem dX9_letterLine_210 : decode cX9_letterLine 210 = .ok (.iconst 0, 1) := by decide +kernel
theorem dX9_letterLine_211 : decode cX9_letterLine 211 = .ok (.invokevirtual 177, 3) := by decide +kernel
theorem dX9_letterLine_214 : decode cX9_letterLine 214 = .ok (.iconst 1, 1) := by decide +kernel
theorem dX9_letterLine_215 : decode cX9_letterLine 215 = .ok (.isub, 1) := by decide +kernel
theorem dX9_letterLine_216 : decode cX9_letterLine 216 = .ok (.invokevirtual 170, 3) := by decide +kernel
theorem dX9_letterLine_219 : decode cX9_letterLine 219 = .ok (.goto 4, 3) := by decide +kernel
theorem dX9_letterLine_222 : decode cX9_letterLine 222 = .ok (.iconst (-1), 1) := by decide +kernel
theorem dX9_letterLine_223 : decode cX9_letterLine 223 = .ok (.iastore, 1) := by decide +kernel
theorem dX9_letterLine_224 : decode cX9_letterLine 224 = .ok (.aload_n 0, 1) := by decide +kernel
theorem dX9_letterLine_225 : decode cX9_letterLine 225 = .ok (.getfield 34, 3) := by decide +kernel
theorem dX9_letterLine_228 : decode cX9_letterLine 228 = .ok (.bipush 27, 2) := by decide +kernel
theorem dX9_letterLine_230 : decode cX9_letterLine 230 = .ok (.dup2, 1) := by decide +kernel
theorem dX9_letterLine_231 : decode cX9_letterLine 231 = .ok (.iaload, 1) := by decide +kernel
theorem dX9_letterLine_232 : decode cX9_letterLine 232 = .ok (.iconst 1, 1) := by decide +kernel
theorem dX9_letterLine_233 : decode cX9_letterLine 233 = .ok (.iadd, 1) := by decide +kernel
theorem dX9_letterLine_234 : decode cX9_letterLine 234 = .ok (.iastore, 1) := by decide +kernel
theorem dX9_letterLine_235 : decode cX9_letterLine 235 = .ok (.return_, 1) := by decide +kernel
theorem dX9_lawLine_0 : decode cX9_lawLine 0 = .ok (.aload_n 0, 1) := by decide +kernel
theorem dX9_lawLine_1 : decode cX9_lawLine 1 = .ok (.ldc2_w 210, 3) := by decide +kernel
theorem dX9_lawLine_4 : decode cX9_lawLine 4 = .ok (.invokevirtual 153, 3) := by decide +kernel
theorem dX9_lawLine_7 : decode cX9_lawLine 7 = .ok (.ifCond .eq 7, 3) := by decide +kernel
theorem dX9_lawLine_10 : decode cX9_lawLine 10 = .ok (.iconst 0, 1) := by decide +kernel
theorem dX9_lawLine_11 : decode cX9_lawLine 11 = .ok (.goto 46, 3) := by decide +kernel
theorem dX9_lawLine_14 : decode cX9_lawLine 14 = .ok (.aload_n 0, 1) := by decide +kernel
theorem dX9_lawLine_15 : decode cX9_lawLine 15 = .ok (.ldc2_w 212, 3) := by decide +kernel
theorem dX9_lawLine_18 : decode cX9_lawLine 18 = .ok (.invokevirtual 153, 3) := by decide +kernel
theorem dX9_lawLine_21 : decode cX9_lawLine 21 = .ok (.ifCond .eq 7, 3) := by decide +kernel
theorem dX9_lawLine_24 : decode cX9_lawLine 24 = .ok (.iconst 1, 1) := by decide +kernel
theorem dX9_lawLine_25 : decode cX9_lawLine 25 = .ok (.goto 32, 3) := by decide +kernel
theorem dX9_lawLine_28 : decode cX9_lawLine 28 = .ok (.aload_n 0, 1) := by decide +kernel
theorem dX9_lawLine_29 : decode cX9_lawLine 29 = .ok (.ldc2_w 214, 3) := by decide +kernel
theorem dX9_lawLine_32 : decode cX9_lawLine 32 = .ok (.invokevirtual 153, 3) := by decide +kernel
theorem dX9_lawLine_35 : decode cX9_lawLine 35 = .ok (.ifCond .eq 7, 3) := by decide +kernel
theorem dX9_lawLine_38 : decode cX9_lawLine 38 = .ok (.iconst 2, 1) := by decide +kernel
theorem dX9_lawLine_39 : decode cX9_lawLine 39 = .ok (.goto 18, 3) := by decide +kernel
theorem dX9_lawLine_42 : decode cX9_lawLine 42 = .ok (.aload_n 0, 1) := by decide +kernel
theorem dX9_lawLine_43 : decode cX9_lawLine 43 = .ok (.ldc2_w 216, 3) := by decide +kernel
theorem dX9_lawLine_46 : decode cX9_lawLine 46 = .ok (.invokevirtual 153, 3) := by decide +kernel
theorem dX9_lawLine_49 : decode cX9_lawLine 49 = .ok (.ifCond .eq 7, 3) := by decide +kernel
theorem dX9_lawLine_52 : decode cX9_lawLine 52 = .ok (.iconst 3, 1) := by decide +kernel
theorem dX9_lawLine_53 : decode cX9_lawLine 53 = .ok (.goto 4, 3) := by decide +kernel
theorem dX9_lawLine_56 : decode cX9_lawLine 56 = .ok (.iconst (-1), 1) := by decide +kernel
theorem dX9_lawLine_57 : decode cX9_lawLine 57 = .ok (.istore_n 1, 1) := by decide +kernel
theorem dX9_lawLine_58 : decode cX9_lawLine 58 = .ok (.iload_n 1, 1) := by decide +kernel
theorem dX9_lawLine_59 : decode cX9_lawLine 59 = .ok (.iconst (-1), 1) := by decide +kernel
theorem dX9_lawLine_60 : decode cX9_lawLine 60 = .ok (.if_icmp .ne 8, 3) := by decide +kernel
theorem dX9_lawLine_63 : decode cX9_lawLine 63 = .ok (.aload_n 0, 1) := by decide +kernel
theorem dX9_lawLine_64 : decode cX9_lawLine 64 = .ok (.iconst 1, 1) := by decide +kernel
theorem dX9_lawLine_65 : decode cX9_lawLine 65 = .ok (.invokevirtual 163, 3) := by decide +kernel
theorem dX9_lawLine_68 : decode cX9_lawLine 68 = .ok (.aload_n 0, 1) := by decide +kernel
theorem dX9_lawLine_69 : decode cX9_lawLine 69 = .ok (.getfield 147, 3) := by decide +kernel
theorem dX9_lawLine_72 : decode cX9_lawLine 72 = .ok (.ifCond .eq 4, 3) := by decide +kernel
theorem dX9_lawLine_75 : decode cX9_lawLine 75 = .ok (.return_, 1) := by decide +kernel
theorem dX9_lawLine_76 : decode cX9_lawLine 76 = .ok (.aload_n 0, 1) := by decide +kernel
theorem dX9_lawLine_77 : decode cX9_lawLine 77 = .ok (.invokevirtual 157, 3) := by decide +kernel
theorem dX9_lawLine_80 : decode cX9_lawLine 80 = .ok (.aload_n 0, 1) := by decide +kernel
theorem dX9_lawLine_81 : decode cX9_lawLine 81 = .ok (.getfield 34, 3) := by decide +kernel
theorem dX9_lawLine_84 : decode cX9_lawLine 84 = .ok (.bipush 28, 2) := by decide +kernel
theorem dX9_lawLine_86 : decode cX9_lawLine 86 = .ok (.iload_n 1, 1) := by decide +kernel
theorem dX9_lawLine_87 : decode cX9_lawLine 87 = .ok (.iastore, 1) := by decide +kernel
theorem dX9_lawLine_88 : decode cX9_lawLine 88 = .ok (.iload_n 1, 1) := by decide +kernel
theorem dX9_lawLine_89 : decode cX9_lawLine 89 = .ok (.iconst 3, 1) := by decide +kernel
theorem dX9_lawLine_90 : decode cX9_lawLine 90 = .ok (.if_icmp .ne 18, 3) := by decide +kernel
theorem dX9_lawLine_93 : decode cX9_lawLine 93 = .ok (.aload_n 0, 1) := by decide +kernel
theorem dX9_lawLine_94 : decode cX9_lawLine 94 = .ok (.getfield 34, 3) := by decide +kernel
theorem dX9_lawLine_97 : decode cX9_lawLine 97 = .ok (.bipush 29, 2) := by decide +kernel
theorem dX9_lawLine_99 : decode cX9_lawLine 99 = .ok (.aload_n 0, 1) := by decide +kernel
theorem dX9_lawLine_100 : decode cX9_lawLine 100 = .ok (.iconst 0, 1) := by decide +kernel
theorem dX9_lawLine_101 : decode cX9_lawLine 101 = .ok (.sipush 9999, 3) := by decide +kernel
theorem dX9_lawLine_104 : decode cX9_lawLine 104 = .ok (.invokevirtual 170, 3) := by decide +kernel
theorem dX9_lawLine_107 : decode cX9_lawLine 107 = .ok (.iastore, 1) := by decide +kernel
theorem dX9_lawLine_108 : decode cX9_lawLine 108 = .ok (.return_, 1) := by decide +kernel
theorem dX9_line_0 : decode cX9_line 0 = .ok (.aload_n 0, 1) := by decide +kernel
theorem dX9_line_1 : decode cX9_line 1 = .ok (.ldc2_w 218, 3) := by decide +kernel
theorem dX9_line_4 : decode cX9_line 4 = .ok (.invokevirtual 153, 3) := by decide +kernel
theorem dX9_line_7 : decode cX9_line 7 = .ok (.istore_n 1, 1) := by decide +kernel
theorem dX9_line_8 : decode cX9_line 8 = .ok (.aload_n 0, 1) := by decide +kernel
theorem dX9_line_9 : decode cX9_line 9 = .ok (.ldc2_w 220, 3) := by decide +kernel
theorem dX9_line_12 : decode cX9_line 12 = .ok (.invokevirtual 153, 3) := by decide +kernel
theorem dX9_line_15 : decode cX9_line 15 = .ok (.istore_n 2, 1) := by decide +kernel
theorem dX9_line_16 : decode cX9_line 16 = .ok (.aload_n 0, 1) := by decide +kernel
theorem dX9_line_17 : decode cX9_line 17 = .ok (.ldc2_w 222, 3) := by decide +kernel
theorem dX9_line_20 : decode cX9_line 20 = .ok (.invokevirtual 153, 3) := by decide +kernel
theorem dX9_line_23 : decode cX9_line 23 = .ok (.istore_n 3, 1) := by decide +kernel
theorem dX9_line_24 : decode cX9_line 24 = .ok (.iload_n 1, 1) := by decide +kernel
theorem dX9_line_25 : decode cX9_line 25 = .ok (.ifCond .ne 16, 3) := by decide +kernel
theorem dX9_line_28 : decode cX9_line 28 = .ok (.iload_n 2, 1) := by decide +kernel
theorem dX9_line_29 : decode cX9_line 29 = .ok (.ifCond .ne 12, 3) := by decide +kernel
theorem dX9_line_32 : decode cX9_line 32 = .ok (.iload_n 3, 1) := by decide +kernel
theorem dX9_line_33 : decode cX9_line 33 = .ok (.ifCond .ne 8, 3) := by decide +kernel
theorem dX9_line_36 : decode cX9_line 36 = .ok (.aload_n 0, 1) := by decide +kernel
theorem dX9_line_37 : decode cX9_line 37 = .ok (.iconst 1, 1) := by decide +kernel
theorem dX9_line_38 : decode cX9_line 38 = .ok (.invokevirtual 163, 3) := by decide +kernel
theorem dX9_line_41 : decode cX9_line 41 = .ok (.iload_n 3, 1) := by decide +kernel
theorem dX9_line_42 : decode cX9_line 42 = .ok (.ifCond .eq 15, 3) := by decide +kernel
theorem dX9_line_45 : decode cX9_line 45 = .ok (.aload_n 0, 1) := by decide +kernel
theorem dX9_line_46 : decode cX9_line 46 = .ok (.getfield 224, 3) := by decide +kernel
theorem dX9_line_49 : decode cX9_line 49 = .ok (.ifCond .eq 8, 3) := by decide +kernel
theorem dX9_line_52 : decode cX9_line 52 = .ok (.aload_n 0, 1) := by decide +kernel
theorem dX9_line_53 : decode cX9_line 53 = .ok (.iconst 2, 1) := by decide +kernel
theorem dX9_line_54 : decode cX9_line 54 = .ok (.invokevirtual 163, 3) := by decide +kernel
theorem dX9_line_57 : decode cX9_line 57 = .ok (.iload_n 1, 1) := by decide +kernel
theorem dX9_line_58 : decode cX9_line 58 = .ok (.ifCond .eq 13, 3) := by decide +kernel
theorem dX9_line_61 : decode cX9_line 61 = .ok (.aload_n 0, 1) := by decide +kernel
theorem dX9_line_62 : decode cX9_line 62 = .ok (.iconst 2, 1) := by decide +kernel
theorem dX9_line_63 : decode cX9_line 63 = .ok (.invokevirtual 177, 3) := by decide +kernel
theorem dX9_line_66 : decode cX9_line 66 = .ok (.bipush 8, 2) := by decide +kernel
theorem dX9_line_68 : decode cX9_line 68 = .ok (.if_icmp .eq 17, 3) := by decide +kernel
theorem dX9_line_71 : decode cX9_line 71 = .ok (.iload_n 2, 1) := by decide +kernel
theorem dX9_line_72 : decode cX9_line 72 = .ok (.ifCond .eq 18, 3) := by decide +kernel
theorem dX9_line_75 : decode cX9_line 75 = .ok (.aload_n 0, 1) := by decide +kernel
theorem dX9_line_76 : decode cX9_line 76 = .ok (.iconst 3, 1) := by decide +kernel
theorem dX9_line_77 : decode cX9_line 77 = .ok (.invokevirtual 177, 3) := by decide +kernel
theorem dX9_line_80 : decode cX9_line 80 = .ok (.bipush 24, 2) := by decide +kernel
theorem dX9_line_82 : decode cX9_line 82 = .ok (.if_icmp .ne 8, 3) := by decide +kernel
theorem dX9_line_85 : decode cX9_line 85 = .ok (.aload_n 0, 1) := by decide +kernel
theorem dX9_line_86 : decode cX9_line 86 = .ok (.iconst 3, 1) := by decide +kernel
theorem dX9_line_87 : decode cX9_line 87 = .ok (.invokevirtual 163, 3) := by decide +kernel
theorem dX9_line_90 : decode cX9_line 90 = .ok (.aload_n 0, 1) := by decide +kernel
theorem dX9_line_91 : decode cX9_line 91 = .ok (.getfield 147, 3) := by decide +kernel
theorem dX9_line_94 : decode cX9_line 94 = .ok (.ifCond .eq 4, 3) := by decide +kernel
theorem dX9_line_97 : decode cX9_line 97 = .ok (.return_, 1) := by decide +kernel
theorem dX9_line_98 : decode cX9_line 98 = .ok (.aload_n 0, 1) := by decide +kernel
theorem dX9_line_99 : decode cX9_line 99 = .ok (.invokevirtual 157, 3) := by decide +kernel
theorem dX9_line_102 : decode cX9_line 102 = .ok (.iload_n 1, 1) := by decide +kernel
theorem dX9_line_103 : decode cX9_line 103 = .ok (.ifCond .eq 10, 3) := by decide +kernel
theorem dX9_line_106 : decode cX9_line 106 = .ok (.aload_n 0, 1) := by decide +kernel
theorem dX9_line_107 : decode cX9_line 107 = .ok (.invokevirtual 228, 3) := by decide +kernel
theorem dX9_line_110 : decode cX9_line 110 = .ok (.goto 18, 3) := by decide +kernel
theorem dX9_line_113 : decode cX9_line 113 = .ok (.iload_n 2, 1) := by decide +kernel
theorem dX9_line_114 : decode cX9_line 114 = .ok (.ifCond .eq 10, 3) := by decide +kernel
theorem dX9_line_117 : decode cX9_line 117 = .ok (.aload_n 0, 1) := by decide +kernel
theorem dX9_line_118 : decode cX9_line 118 = .ok (.invokevirtual 231, 3) := by decide +kernel
theorem dX9_line_121 : decode cX9_line 121 = .ok (.goto 7, 3) := by decide +kernel
theorem dX9_line_124 : decode cX9_line 124 = .ok (.aload_n 0, 1) := by decide +kernel
theorem dX9_line_125 : decode cX9_line 125 = .ok (.invokevirtual 234, 3) := by decide +kernel
theorem dX9_line_128 : decode cX9_line 128 = .ok (.aload_n 0, 1) := by decide +kernel
theorem dX9_line_129 : decode cX9_line 129 = .ok (.aload_n 0, 1) := by decide +kernel
theorem dX9_line_130 : decode cX9_line 130 = .ok (.getfield 224, 3) := by decide +kernel
theorem dX9_line_133 : decode cX9_line 133 = .ok (.ifCond .ne 7, 3) := by decide +kernel
theorem dX9_line_136 : decode cX9_line 136 = .ok (.iload_n 3, 1) := by decide +kernel
theorem dX9_line_137 : decode cX9_line 137 = .ok (.ifCond .eq 7, 3) := by decide +kernel
theorem dX9_line_140 : decode cX9_line 140 = .ok (.iconst 1, 1) := by decide +kernel
theorem dX9_line_141 : decode cX9_line 141 = .ok (.goto 4, 3) := by decide +kernel
theorem dX9_line_144 : decode cX9_line 144 = .ok (.iconst 0, 1) := by decide +kernel
theorem dX9_line_145 : decode cX9_line 145 = .ok (.putfield 224, 3) := by decide +kernel
theorem dX9_line_148 : decode cX9_line 148 = .ok (.return_, 1) := by decide +kernel
theorem dX9_clears_0 : decode cX9_clears 0 = .ok (.aload_n 0, 1) := by decide +kernel
theorem dX9_clears_1 : decode cX9_clears 1 = .ok (.getfield 31, 3) := by decide +kernel
theorem dX9_clears_4 : decode cX9_clears 4 = .ok (.iconst 4, 1) := by decide +kernel
theorem dX9_clears_5 : decode cX9_clears 5 = .ok (.iconst 0, 1) := by decide +kernel
theorem dX9_clears_6 : decode cX9_clears 6 = .ok (.iastore, 1) := by decide +kernel
theorem dX9_clears_7 : decode cX9_clears 7 = .ok (.iconst 0, 1) := by decide +kernel
theorem dX9_clears_8 : decode cX9_clears 8 = .ok (.istore_n 1, 1) := by decide +kernel
theorem dX9_clears_9 : decode cX9_clears 9 = .ok (.iload_n 1, 1) := by decide +kernel
theorem dX9_clears_10 : decode cX9_clears 10 = .ok (.bipush 6, 2) := by decide +kernel
theorem dX9_clears_12 : decode cX9_clears 12 = .ok (.if_icmp .ge 28, 3) := by decide +kernel
theorem dX9_clears_15 : decode cX9_clears 15 = .ok (.aload_n 0, 1) := by decide +kernel
theorem dX9_clears_16 : decode cX9_clears 16 = .ok (.getfield 34, 3) := by decide +kernel
theorem dX9_clears_19 : decode cX9_clears 19 = .ok (.bipush 24, 2) := by decide +kernel
theorem dX9_clears_21 : decode cX9_clears 21 = .ok (.iload_n 1, 1) := by decide +kernel
theorem dX9_clears_22 : decode cX9_clears 22 = .ok (.iadd, 1) := by decide +kernel
theorem dX9_clears_23 : decode cX9_clears 23 = .ok (.iload_n 1, 1) := by decide +kernel
theorem dX9_clears_24 : decode cX9_clears 24 = .ok (.iconst 5, 1) := by decide +kernel
theorem dX9_clears_25 : decode cX9_clears 25 = .ok (.if_icmp .ne 7, 3) := by decide +kernel
theorem dX9_clears_28 : decode cX9_clears 28 = .ok (.iconst 1, 1) := by decide +kernel
theorem dX9_clears_29 : decode cX9_clears 29 = .ok (.goto 4, 3) := by decide +kernel
theorem dX9_clears_32 : decode cX9_clears 32 = .ok (.iconst 0, 1) := by decide +kernel
theorem dX9_clears_33 : decode cX9_clears 33 = .ok (.iastore, 1) := by decide +kernel
theorem dX9_clears_34 : decode cX9_clears 34 = .ok (.iinc 1 1, 3) := by decide +kernel
theorem dX9_clears_37 : decode cX9_clears 37 = .ok (.goto (-28), 3) := by decide +kernel
theorem dX9_clears_40 : decode cX9_clears 40 = .ok (.aload_n 0, 1) := by decide +kernel
theorem dX9_clears_41 : decode cX9_clears 41 = .ok (.iconst 0, 1) := by decide +kernel
theorem dX9_clears_42 : decode cX9_clears 42 = .ok (.putfield 224, 3) := by decide +kernel
theorem dX9_clears_45 : decode cX9_clears 45 = .ok (.return_, 1) := by decide +kernel
theorem dX9_town_0 : decode cX9_town 0 = .ok (.aload_n 0, 1) := by decide +kernel
theorem dX9_town_1 : decode cX9_town 1 = .ok (.iconst 0, 1) := by decide +kernel
theorem dX9_town_2 : decode cX9_town 2 = .ok (.putfield 95, 3) := by decide +kernel
theorem dX9_town_5 : decode cX9_town 5 = .ok (.aload_n 0, 1) := by decide +kernel
theorem dX9_town_6 : decode cX9_town 6 = .ok (.invokevirtual 237, 3) := by decide +kernel
theorem dX9_town_9 : decode cX9_town 9 = .ok (.aload_n 0, 1) := by decide +kernel
theorem dX9_town_10 : decode cX9_town 10 = .ok (.invokevirtual 240, 3) := by decide +kernel
theorem dX9_town_13 : decode cX9_town 13 = .ok (.aload_n 0, 1) := by decide +kernel
theorem dX9_town_14 : decode cX9_town 14 = .ok (.invokevirtual 243, 3) := by decide +kernel
theorem dX9_town_17 : decode cX9_town 17 = .ok (.ifCond .eq 91, 3) := by decide +kernel
theorem dX9_town_20 : decode cX9_town 20 = .ok (.aload_n 0, 1) := by decide +kernel
theorem dX9_town_21 : decode cX9_town 21 = .ok (.getfield 136, 3) := by decide +kernel
theorem dX9_town_24 : decode cX9_town 24 = .ok (.ifCond .eq 84, 3) := by decide +kernel
theorem dX9_town_27 : decode cX9_town 27 = .ok (.aload_n 0, 1) := by decide +kernel
theorem dX9_town_28 : decode cX9_town 28 = .ok (.getfield 31, 3) := by decide +kernel
theorem dX9_town_31 : decode cX9_town 31 = .ok (.iconst 4, 1) := by decide +kernel
theorem dX9_town_32 : decode cX9_town 32 = .ok (.iaload, 1) := by decide +kernel
theorem dX9_town_33 : decode cX9_town 33 = .ok (.ifCond .ne 47, 3) := by decide +kernel
theorem dX9_town_36 : decode cX9_town 36 = .ok (.aload_n 0, 1) := by decide +kernel
theorem dX9_town_37 : decode cX9_town 37 = .ok (.ldc2_w 247, 3) := by decide +kernel
theorem dX9_town_40 : decode cX9_town 40 = .ok (.invokevirtual 166, 3) := by decide +kernel
theorem dX9_town_43 : decode cX9_town 43 = .ok (.aload_n 0, 1) := by decide +kernel
theorem dX9_town_44 : decode cX9_town 44 = .ok (.getfield 34, 3) := by decide +kernel
theorem dX9_town_47 : decode cX9_town 47 = .ok (.bipush 24, 2) := by decide +kernel
theorem dX9_town_49 : decode cX9_town 49 = .ok (.aload_n 0, 1) := by decide +kernel
theorem dX9_town_50 : decode cX9_town 50 = .ok (.ldc2_w 249, 3) := by decide +kernel
theorem dX9_town_53 : decode cX9_town 53 = .ok (.iconst 2, 1) := by decide +kernel
theorem dX9_town_54 : decode cX9_town 54 = .ok (.bipush 40, 2) := by decide +kernel
theorem dX9_town_56 : decode cX9_town 56 = .ok (.invokevirtual 182, 3) := by decide +kernel
theorem dX9_town_59 : decode cX9_town 59 = .ok (.iastore, 1) := by decide +kernel
theorem dX9_town_60 : decode cX9_town 60 = .ok (.aload_n 0, 1) := by decide +kernel
theorem dX9_town_61 : decode cX9_town 61 = .ok (.getfield 34, 3) := by decide +kernel
theorem dX9_town_64 : decode cX9_town 64 = .ok (.bipush 25, 2) := by decide +kernel
theorem dX9_town_66 : decode cX9_town 66 = .ok (.aload_n 0, 1) := by decide +kernel
theorem dX9_town_67 : decode cX9_town 67 = .ok (.ldc2_w 251, 3) := by decide +kernel
theorem dX9_town_70 : decode cX9_town 70 = .ok (.iconst 1, 1) := by decide +kernel
theorem dX9_town_71 : decode cX9_town 71 = .ok (.bipush 9, 2) := by decide +kernel
theorem dX9_town_73 : decode cX9_town 73 = .ok (.invokevirtual 182, 3) := by decide +kernel
theorem dX9_town_76 : decode cX9_town 76 = .ok (.iastore, 1) := by decide +kernel
theorem dX9_town_77 : decode cX9_town 77 = .ok (.goto 7, 3) := by decide +kernel
theorem dX9_town_80 : decode cX9_town 80 = .ok (.aload_n 0, 1) := by decide +kernel
theorem dX9_town_81 : decode cX9_town 81 = .ok (.invokevirtual 253, 3) := by decide +kernel
theorem dX9_town_84 : decode cX9_town 84 = .ok (.aload_n 0, 1) := by decide +kernel
theorem dX9_town_85 : decode cX9_town 85 = .ok (.invokevirtual 243, 3) := by decide +kernel
theorem dX9_town_88 : decode cX9_town 88 = .ok (.ifCond .eq 7, 3) := by decide +kernel
theorem dX9_town_91 : decode cX9_town 91 = .ok (.aload_n 0, 1) := by decide +kernel
theorem dX9_town_92 : decode cX9_town 92 = .ok (.invokevirtual 256, 3) := by decide +kernel
theorem dX9_town_95 : decode cX9_town 95 = .ok (.aload_n 0, 1) := by decide +kernel
theorem dX9_town_96 : decode cX9_town 96 = .ok (.getfield 31, 3) := by decide +kernel
theorem dX9_town_99 : decode cX9_town 99 = .ok (.iconst 4, 1) := by decide +kernel
theorem dX9_town_100 : decode cX9_town 100 = .ok (.dup2, 1) := by decide +kernel
theorem dX9_town_101 : decode cX9_town 101 = .ok (.iaload, 1) := by decide +kernel
theorem dX9_town_102 : decode cX9_town 102 = .ok (.iconst 1, 1) := by decide +kernel
theorem dX9_town_103 : decode cX9_town 103 = .ok (.iadd, 1) := by decide +kernel
theorem dX9_town_104 : decode cX9_town 104 = .ok (.iastore, 1) := by decide +kernel
theorem dX9_town_105 : decode cX9_town 105 = .ok (.goto (-92), 3) := by decide +kernel
theorem dX9_town_108 : decode cX9_town 108 = .ok (.aload_n 0, 1) := by decide +kernel
theorem dX9_town_109 : decode cX9_town 109 = .ok (.invokevirtual 259, 3) := by decide +kernel
theorem dX9_town_112 : decode cX9_town 112 = .ok (.aload_n 0, 1) := by decide +kernel
theorem dX9_town_113 : decode cX9_town 113 = .ok (.getfield 147, 3) := by decide +kernel
theorem dX9_town_116 : decode cX9_town 116 = .ok (.ifCond .eq 6, 3) := by decide +kernel
theorem dX9_town_119 : decode cX9_town 119 = .ok (.bipush (-4), 2) := by decide +kernel
theorem dX9_town_121 : decode cX9_town 121 = .ok (.ireturn, 1) := by decide +kernel
theorem dX9_town_122 : decode cX9_town 122 = .ok (.aload_n 0, 1) := by decide +kernel
theorem dX9_town_123 : decode cX9_town 123 = .ok (.iconst 4, 1) := by decide +kernel
theorem dX9_town_124 : decode cX9_town 124 = .ok (.iconst 0, 1) := by decide +kernel
theorem dX9_town_125 : decode cX9_town 125 = .ok (.invokevirtual 262, 3) := by decide +kernel
theorem dX9_town_128 : decode cX9_town 128 = .ok (.aload_n 0, 1) := by decide +kernel
theorem dX9_town_129 : decode cX9_town 129 = .ok (.getfield 31, 3) := by decide +kernel
theorem dX9_town_132 : decode cX9_town 132 = .ok (.iconst 0, 1) := by decide +kernel
theorem dX9_town_133 : decode cX9_town 133 = .ok (.iaload, 1) := by decide +kernel
theorem dX9_town_134 : decode cX9_town 134 = .ok (.ireturn, 1) := by decide +kernel
theorem dX9_copyRow_0 : decode cX9_copyRow 0 = .ok (.iconst 0, 1) := by decide +kernel
theorem dX9_copyRow_1 : decode cX9_copyRow 1 = .ok (.istore 4, 2) := by decide +kernel
theorem dX9_copyRow_3 : decode cX9_copyRow 3 = .ok (.iload 4, 2) := by decide +kernel
theorem dX9_copyRow_5 : decode cX9_copyRow 5 = .ok (.iload_n 1, 1) := by decide +kernel
theorem dX9_copyRow_6 : decode cX9_copyRow 6 = .ok (.if_icmp .ge 25, 3) := by decide +kernel
theorem dX9_copyRow_9 : decode cX9_copyRow 9 = .ok (.aload_n 0, 1) := by decide +kernel
theorem dX9_copyRow_10 : decode cX9_copyRow 10 = .ok (.iload_n 1, 1) := by decide +kernel
theorem dX9_copyRow_11 : decode cX9_copyRow 11 = .ok (.iload_n 3, 1) := by decide +kernel
theorem dX9_copyRow_12 : decode cX9_copyRow 12 = .ok (.imul, 1) := by decide +kernel
theorem dX9_copyRow_13 : decode cX9_copyRow 13 = .ok (.iload 4, 2) := by decide +kernel
theorem dX9_copyRow_15 : decode cX9_copyRow 15 = .ok (.iadd, 1) := by decide +kernel
theorem dX9_copyRow_16 : decode cX9_copyRow 16 = .ok (.aload_n 0, 1) := by decide +kernel
theorem dX9_copyRow_17 : decode cX9_copyRow 17 = .ok (.iload_n 1, 1) := by decide +kernel
theorem dX9_copyRow_18 : decode cX9_copyRow 18 = .ok (.iload_n 2, 1) := by decide +kernel
theorem dX9_copyRow_19 : decode cX9_copyRow 19 = .ok (.imul, 1) := by decide +kernel
theorem dX9_copyRow_20 : decode cX9_copyRow 20 = .ok (.iload 4, 2) := by decide +kernel
theorem dX9_copyRow_22 : decode cX9_copyRow 22 = .ok (.iadd, 1) := by decide +kernel
theorem dX9_copyRow_23 : decode cX9_copyRow 23 = .ok (.iaload, 1) := by decide +kernel
theorem dX9_copyRow_24 : decode cX9_copyRow 24 = .ok (.iastore, 1) := by decide +kernel
theorem dX9_copyRow_25 : decode cX9_copyRow 25 = .ok (.iinc 4 1, 3) := by decide +kernel
theorem dX9_copyRow_28 : decode cX9_copyRow 28 = .ok (.goto (-25), 3) := by decide +kernel
theorem dX9_copyRow_31 : decode cX9_copyRow 31 = .ok (.return_, 1) := by decide +kernel
theorem dX9_copyTown_0 : decode cX9_copyTown 0 = .ok (.aload_n 0, 1) := by decide +kernel
theorem dX9_copyTown_1 : decode cX9_copyTown 1 = .ok (.getfield 31, 3) := by decide +kernel
theorem dX9_copyTown_4 : decode cX9_copyTown 4 = .ok (.iconst 1, 1) := by decide +kernel
theorem dX9_copyTown_5 : decode cX9_copyTown 5 = .ok (.iload_n 1, 1) := by decide +kernel
theorem dX9_copyTown_6 : decode cX9_copyTown 6 = .ok (.iload_n 2, 1) := by decide +kernel
theorem dX9_copyTown_7 : decode cX9_copyTown 7 = .ok (.invokestatic 266, 3) := by decide +kernel
theorem dX9_copyTown_10 : decode cX9_copyTown 10 = .ok (.aload_n 0, 1) := by decide +kernel
theorem dX9_copyTown_11 : decode cX9_copyTown 11 = .ok (.getfield 34, 3) := by decide +kernel
theorem dX9_copyTown_14 : decode cX9_copyTown 14 = .ok (.bipush 6, 2) := by decide +kernel
theorem dX9_copyTown_16 : decode cX9_copyTown 16 = .ok (.iload_n 1, 1) := by decide +kernel
theorem dX9_copyTown_17 : decode cX9_copyTown 17 = .ok (.iload_n 2, 1) := by decide +kernel
theorem dX9_copyTown_18 : decode cX9_copyTown 18 = .ok (.invokestatic 266, 3) := by decide +kernel
theorem dX9_copyTown_21 : decode cX9_copyTown 21 = .ok (.aload_n 0, 1) := by decide +kernel
theorem dX9_copyTown_22 : decode cX9_copyTown 22 = .ok (.getfield 37, 3) := by decide +kernel
theorem dX9_copyTown_25 : decode cX9_copyTown 25 = .ok (.bipush 24, 2) := by decide +kernel
theorem dX9_copyTown_27 : decode cX9_copyTown 27 = .ok (.iload_n 1, 1) := by decide +kernel
theorem dX9_copyTown_28 : decode cX9_copyTown 28 = .ok (.iload_n 2, 1) := by decide +kernel
