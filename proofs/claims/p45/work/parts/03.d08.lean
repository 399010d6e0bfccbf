theorem dX9_orders_76 : decode cX9_orders 76 = .ok (.getfield 449, 3) := by decide +kernel
theorem dX9_orders_79 : decode cX9_orders 79 = .ok (.putfield 449, 3) := by decide +kernel
theorem dX9_orders_82 : decode cX9_orders 82 = .ok (.iload_n 3, 1) := by decide +kernel
theorem dX9_orders_83 : decode cX9_orders 83 = .ok (.aload_n 0, 1) := by decide +kernel
theorem dX9_orders_84 : decode cX9_orders 84 = .ok (.getfield 452, 3) := by decide +kernel
theorem dX9_orders_87 : decode cX9_orders 87 = .ok (.if_icmp .gt 4, 3) := by decide +kernel
theorem dX9_orders_90 : decode cX9_orders 90 = .ok (.return_, 1) := by decide +kernel
theorem dX9_orders_91 : decode cX9_orders 91 = .ok (.aload_n 0, 1) := by decide +kernel
theorem dX9_orders_92 : decode cX9_orders 92 = .ok (.iload_n 3, 1) := by decide +kernel
theorem dX9_orders_93 : decode cX9_orders 93 = .ok (.putfield 452, 3) := by decide +kernel
theorem dX9_orders_96 : decode cX9_orders 96 = .ok (.iconst 0, 1) := by decide +kernel
theorem dX9_orders_97 : decode cX9_orders 97 = .ok (.istore 4, 2) := by decide +kernel
theorem dX9_orders_99 : decode cX9_orders 99 = .ok (.iload 4, 2) := by decide +kernel
theorem dX9_orders_101 : decode cX9_orders 101 = .ok (.aload_n 0, 1) := by decide +kernel
theorem dX9_orders_102 : decode cX9_orders 102 = .ok (.getfield 446, 3) := by decide +kernel
theorem dX9_orders_105 : decode cX9_orders 105 = .ok (.if_icmp .ge 23, 3) := by decide +kernel
theorem dX9_orders_108 : decode cX9_orders 108 = .ok (.aload_n 0, 1) := by decide +kernel
theorem dX9_orders_109 : decode cX9_orders 109 = .ok (.getfield 86, 3) := by decide +kernel
theorem dX9_orders_112 : decode cX9_orders 112 = .ok (.iload 4, 2) := by decide +kernel
theorem dX9_orders_114 : decode cX9_orders 114 = .ok (.aload_n 0, 1) := by decide +kernel
theorem dX9_orders_115 : decode cX9_orders 115 = .ok (.getfield 83, 3) := by decide +kernel
theorem dX9_orders_118 : decode cX9_orders 118 = .ok (.iload 4, 2) := by decide +kernel
theorem dX9_orders_120 : decode cX9_orders 120 = .ok (.iaload, 1) := by decide +kernel
theorem dX9_orders_121 : decode cX9_orders 121 = .ok (.iastore, 1) := by decide +kernel
theorem dX9_orders_122 : decode cX9_orders 122 = .ok (.iinc 4 1, 3) := by decide +kernel
theorem dX9_orders_125 : decode cX9_orders 125 = .ok (.goto (-26), 3) := by decide +kernel
theorem dX9_orders_128 : decode cX9_orders 128 = .ok (.return_, 1) := by decide +kernel
theorem dX9_orders_129 : decode cX9_orders 129 = .ok (.iconst 0, 1) := by decide +kernel
theorem dX9_orders_130 : decode cX9_orders 130 = .ok (.istore_n 3, 1) := by decide +kernel
theorem dX9_orders_131 : decode cX9_orders 131 = .ok (.iload_n 3, 1) := by decide +kernel
theorem dX9_orders_132 : decode cX9_orders 132 = .ok (.aload_n 0, 1) := by decide +kernel
theorem dX9_orders_133 : decode cX9_orders 133 = .ok (.getfield 446, 3) := by decide +kernel
theorem dX9_orders_136 : decode cX9_orders 136 = .ok (.if_icmp .ge 45, 3) := by decide +kernel
theorem dX9_orders_139 : decode cX9_orders 139 = .ok (.iload_n 2, 1) := by decide +kernel
theorem dX9_orders_140 : decode cX9_orders 140 = .ok (.iload_n 3, 1) := by decide +kernel
theorem dX9_orders_141 : decode cX9_orders 141 = .ok (.ishr, 1) := by decide +kernel
theorem dX9_orders_142 : decode cX9_orders 142 = .ok (.iconst 1, 1) := by decide +kernel
theorem dX9_orders_143 : decode cX9_orders 143 = .ok (.iand, 1) := by decide +kernel
theorem dX9_orders_144 : decode cX9_orders 144 = .ok (.iconst 1, 1) := by decide +kernel
theorem dX9_orders_145 : decode cX9_orders 145 = .ok (.if_icmp .ne 6, 3) := by decide +kernel
theorem dX9_orders_148 : decode cX9_orders 148 = .ok (.goto 27, 3) := by decide +kernel
theorem dX9_orders_151 : decode cX9_orders 151 = .ok (.aload_n 0, 1) := by decide +kernel
theorem dX9_orders_152 : decode cX9_orders 152 = .ok (.getfield 83, 3) := by decide +kernel
theorem dX9_orders_155 : decode cX9_orders 155 = .ok (.iload_n 1, 1) := by decide +kernel
theorem dX9_orders_156 : decode cX9_orders 156 = .ok (.aload_n 0, 1) := by decide +kernel
theorem dX9_orders_157 : decode cX9_orders 157 = .ok (.getfield 80, 3) := by decide +kernel
theorem dX9_orders_160 : decode cX9_orders 160 = .ok (.iload_n 3, 1) := by decide +kernel
theorem dX9_orders_161 : decode cX9_orders 161 = .ok (.iaload, 1) := by decide +kernel
theorem dX9_orders_162 : decode cX9_orders 162 = .ok (.iastore, 1) := by decide +kernel
theorem dX9_orders_163 : decode cX9_orders 163 = .ok (.aload_n 0, 1) := by decide +kernel
theorem dX9_orders_164 : decode cX9_orders 164 = .ok (.iload_n 1, 1) := by decide +kernel
theorem dX9_orders_165 : decode cX9_orders 165 = .ok (.iconst 1, 1) := by decide +kernel
theorem dX9_orders_166 : decode cX9_orders 166 = .ok (.iadd, 1) := by decide +kernel
theorem dX9_orders_167 : decode cX9_orders 167 = .ok (.iload_n 2, 1) := by decide +kernel
theorem dX9_orders_168 : decode cX9_orders 168 = .ok (.iconst 1, 1) := by decide +kernel
theorem dX9_orders_169 : decode cX9_orders 169 = .ok (.iload_n 3, 1) := by decide +kernel
theorem dX9_orders_170 : decode cX9_orders 170 = .ok (.ishl, 1) := by decide +kernel
theorem dX9_orders_171 : decode cX9_orders 171 = .ok (.ior, 1) := by decide +kernel
theorem dX9_orders_172 : decode cX9_orders 172 = .ok (.invokevirtual 455, 3) := by decide +kernel
theorem dX9_orders_175 : decode cX9_orders 175 = .ok (.iinc 3 1, 3) := by decide +kernel
theorem dX9_orders_178 : decode cX9_orders 178 = .ok (.goto (-47), 3) := by decide +kernel
theorem dX9_orders_181 : decode cX9_orders 181 = .ok (.return_, 1) := by decide +kernel
theorem dX9_whyNotOrder_0 : decode cX9_whyNotOrder 0 = .ok (.aload_n 0, 1) := by decide +kernel
theorem dX9_whyNotOrder_1 : decode cX9_whyNotOrder 1 = .ok (.iload_n 1, 1) := by decide +kernel
theorem dX9_whyNotOrder_2 : decode cX9_whyNotOrder 2 = .ok (.invokevirtual 288, 3) := by decide +kernel
theorem dX9_whyNotOrder_5 : decode cX9_whyNotOrder 5 = .ok (.ifCond .eq 11, 3) := by decide +kernel
theorem dX9_whyNotOrder_8 : decode cX9_whyNotOrder 8 = .ok (.aload_n 0, 1) := by decide +kernel
theorem dX9_whyNotOrder_9 : decode cX9_whyNotOrder 9 = .ok (.iload_n 2, 1) := by decide +kernel
theorem dX9_whyNotOrder_10 : decode cX9_whyNotOrder 10 = .ok (.invokevirtual 407, 3) := by decide +kernel
theorem dX9_whyNotOrder_13 : decode cX9_whyNotOrder 13 = .ok (.ifCond .ne 6, 3) := by decide +kernel
theorem dX9_whyNotOrder_16 : decode cX9_whyNotOrder 16 = .ok (.bipush (-2), 2) := by decide +kernel
theorem dX9_whyNotOrder_18 : decode cX9_whyNotOrder 18 = .ok (.ireturn, 1) := by decide +kernel
theorem dX9_whyNotOrder_19 : decode cX9_whyNotOrder 19 = .ok (.aload_n 0, 1) := by decide +kernel
theorem dX9_whyNotOrder_20 : decode cX9_whyNotOrder 20 = .ok (.iconst 0, 1) := by decide +kernel
theorem dX9_whyNotOrder_21 : decode cX9_whyNotOrder 21 = .ok (.putfield 446, 3) := by decide +kernel
theorem dX9_whyNotOrder_24 : decode cX9_whyNotOrder 24 = .ok (.iconst 0, 1) := by decide +kernel
theorem dX9_whyNotOrder_25 : decode cX9_whyNotOrder 25 = .ok (.istore_n 3, 1) := by decide +kernel
theorem dX9_whyNotOrder_26 : decode cX9_whyNotOrder 26 = .ok (.iload_n 3, 1) := by decide +kernel
theorem dX9_whyNotOrder_27 : decode cX9_whyNotOrder 27 = .ok (.aload_n 0, 1) := by decide +kernel
theorem dX9_whyNotOrder_28 : decode cX9_whyNotOrder 28 = .ok (.getfield 34, 3) := by decide +kernel
theorem dX9_whyNotOrder_31 : decode cX9_whyNotOrder 31 = .ok (.iconst 3, 1) := by decide +kernel
theorem dX9_whyNotOrder_32 : decode cX9_whyNotOrder 32 = .ok (.iaload, 1) := by decide +kernel
theorem dX9_whyNotOrder_33 : decode cX9_whyNotOrder 33 = .ok (.if_icmp .ge 62, 3) := by decide +kernel
theorem dX9_whyNotOrder_36 : decode cX9_whyNotOrder 36 = .ok (.aload_n 0, 1) := by decide +kernel
theorem dX9_whyNotOrder_37 : decode cX9_whyNotOrder 37 = .ok (.getfield 40, 3) := by decide +kernel
theorem dX9_whyNotOrder_40 : decode cX9_whyNotOrder 40 = .ok (.bipush 8, 2) := by decide +kernel
theorem dX9_whyNotOrder_42 : decode cX9_whyNotOrder 42 = .ok (.iload_n 3, 1) := by decide +kernel
theorem dX9_whyNotOrder_43 : decode cX9_whyNotOrder 43 = .ok (.imul, 1) := by decide +kernel
theorem dX9_whyNotOrder_44 : decode cX9_whyNotOrder 44 = .ok (.iconst 1, 1) := by decide +kernel
theorem dX9_whyNotOrder_45 : decode cX9_whyNotOrder 45 = .ok (.iadd, 1) := by decide +kernel
theorem dX9_whyNotOrder_46 : decode cX9_whyNotOrder 46 = .ok (.iaload, 1) := by decide +kernel
theorem dX9_whyNotOrder_47 : decode cX9_whyNotOrder 47 = .ok (.iload_n 1, 1) := by decide +kernel
theorem dX9_whyNotOrder_48 : decode cX9_whyNotOrder 48 = .ok (.if_icmp .ne 41, 3) := by decide +kernel
theorem dX9_whyNotOrder_51 : decode cX9_whyNotOrder 51 = .ok (.aload_n 0, 1) := by decide +kernel
theorem dX9_whyNotOrder_52 : decode cX9_whyNotOrder 52 = .ok (.getfield 40, 3) := by decide +kernel
theorem dX9_whyNotOrder_55 : decode cX9_whyNotOrder 55 = .ok (.bipush 8, 2) := by decide +kernel
theorem dX9_whyNotOrder_57 : decode cX9_whyNotOrder 57 = .ok (.iload_n 3, 1) := by decide +kernel
theorem dX9_whyNotOrder_58 : decode cX9_whyNotOrder 58 = .ok (.imul, 1) := by decide +kernel
theorem dX9_whyNotOrder_59 : decode cX9_whyNotOrder 59 = .ok (.iconst 2, 1) := by decide +kernel
theorem dX9_whyNotOrder_60 : decode cX9_whyNotOrder 60 = .ok (.iadd, 1) := by decide +kernel
theorem dX9_whyNotOrder_61 : decode cX9_whyNotOrder 61 = .ok (.iaload, 1) := by decide +kernel
theorem dX9_whyNotOrder_62 : decode cX9_whyNotOrder 62 = .ok (.iload_n 2, 1) := by decide +kernel
theorem dX9_whyNotOrder_63 : decode cX9_whyNotOrder 63 = .ok (.if_icmp .eq 6, 3) := by decide +kernel
theorem dX9_whyNotOrder_66 : decode cX9_whyNotOrder 66 = .ok (.goto 23, 3) := by decide +kernel
theorem dX9_whyNotOrder_69 : decode cX9_whyNotOrder 69 = .ok (.aload_n 0, 1) := by decide +kernel
theorem dX9_whyNotOrder_70 : decode cX9_whyNotOrder 70 = .ok (.getfield 80, 3) := by decide +kernel
theorem dX9_whyNotOrder_73 : decode cX9_whyNotOrder 73 = .ok (.aload_n 0, 1) := by decide +kernel
theorem dX9_whyNotOrder_74 : decode cX9_whyNotOrder 74 = .ok (.getfield 446, 3) := by decide +kernel
theorem dX9_whyNotOrder_77 : decode cX9_whyNotOrder 77 = .ok (.iload_n 3, 1) := by decide +kernel
theorem dX9_whyNotOrder_78 : decode cX9_whyNotOrder 78 = .ok (.iastore, 1) := by decide +kernel
theorem dX9_whyNotOrder_79 : decode cX9_whyNotOrder 79 = .ok (.aload_n 0, 1) := by decide +kernel
theorem dX9_whyNotOrder_80 : decode cX9_whyNotOrder 80 = .ok (.dup, 1) := by decide +kernel
theorem dX9_whyNotOrder_81 : decode cX9_whyNotOrder 81 = .ok (.getfield 446, 3) := by decide +kernel
theorem dX9_whyNotOrder_84 : decode cX9_whyNotOrder 84 = .ok (.iconst 1, 1) := by decide +kernel
theorem dX9_whyNotOrder_85 : decode cX9_whyNotOrder 85 = .ok (.iadd, 1) := by decide +kernel
theorem dX9_whyNotOrder_86 : decode cX9_whyNotOrder 86 = .ok (.putfield 446, 3) := by decide +kernel
theorem dX9_whyNotOrder_89 : decode cX9_whyNotOrder 89 = .ok (.iinc 3 1, 3) := by decide +kernel
theorem dX9_whyNotOrder_92 : decode cX9_whyNotOrder 92 = .ok (.goto (-66), 3) := by decide +kernel
theorem dX9_whyNotOrder_95 : decode cX9_whyNotOrder 95 = .ok (.aload_n 0, 1) := by decide +kernel
theorem dX9_whyNotOrder_96 : decode cX9_whyNotOrder 96 = .ok (.getfield 446, 3) := by decide +kernel
theorem dX9_whyNotOrder_99 : decode cX9_whyNotOrder 99 = .ok (.bipush 6, 2) := by decide +kernel
theorem dX9_whyNotOrder_101 : decode cX9_whyNotOrder 101 = .ok (.if_icmp .le 6, 3) := by decide +kernel
theorem dX9_whyNotOrder_104 : decode cX9_whyNotOrder 104 = .ok (.bipush (-3), 2) := by decide +kernel
theorem dX9_whyNotOrder_106 : decode cX9_whyNotOrder 106 = .ok (.ireturn, 1) := by decide +kernel
theorem dX9_whyNotOrder_107 : decode cX9_whyNotOrder 107 = .ok (.aload_n 0, 1) := by decide +kernel
theorem dX9_whyNotOrder_108 : decode cX9_whyNotOrder 108 = .ok (.iconst (-1), 1) := by decide +kernel
theorem dX9_whyNotOrder_109 : decode cX9_whyNotOrder 109 = .ok (.putfield 452, 3) := by decide +kernel
theorem dX9_whyNotOrder_112 : decode cX9_whyNotOrder 112 = .ok (.aload_n 0, 1) := by decide +kernel
theorem dX9_whyNotOrder_113 : decode cX9_whyNotOrder 113 = .ok (.iconst (-1), 1) := by decide +kernel
theorem dX9_whyNotOrder_114 : decode cX9_whyNotOrder 114 = .ok (.putfield 449, 3) := by decide +kernel
theorem dX9_whyNotOrder_117 : decode cX9_whyNotOrder 117 = .ok (.aload_n 0, 1) := by decide +kernel
theorem dX9_whyNotOrder_118 : decode cX9_whyNotOrder 118 = .ok (.iconst 0, 1) := by decide +kernel
theorem dX9_whyNotOrder_119 : decode cX9_whyNotOrder 119 = .ok (.iconst 0, 1) := by decide +kernel
theorem dX9_whyNotOrder_120 : decode cX9_whyNotOrder 120 = .ok (.invokevirtual 455, 3) := by decide +kernel
theorem dX9_whyNotOrder_123 : decode cX9_whyNotOrder 123 = .ok (.iconst 0, 1) := by decide +kernel
theorem dX9_whyNotOrder_124 : decode cX9_whyNotOrder 124 = .ok (.ireturn, 1) := by decide +kernel
theorem dX9_order_0 : decode cX9_order 0 = .ok (.aload_n 0, 1) := by decide +kernel
theorem dX9_order_1 : decode cX9_order 1 = .ok (.iconst 0, 1) := by decide +kernel
theorem dX9_order_2 : decode cX9_order 2 = .ok (.putfield 95, 3) := by decide +kernel
theorem dX9_order_5 : decode cX9_order 5 = .ok (.aload_n 0, 1) := by decide +kernel
theorem dX9_order_6 : decode cX9_order 6 = .ok (.iload_n 1, 1) := by decide +kernel
theorem dX9_order_7 : decode cX9_order 7 = .ok (.iload_n 2, 1) := by decide +kernel
theorem dX9_order_8 : decode cX9_order 8 = .ok (.invokevirtual 458, 3) := by decide +kernel
theorem dX9_order_11 : decode cX9_order 11 = .ok (.istore_n 3, 1) := by decide +kernel
theorem dX9_order_12 : decode cX9_order 12 = .ok (.iload_n 3, 1) := by decide +kernel
theorem dX9_order_13 : decode cX9_order 13 = .ok (.ifCond .eq 7, 3) := by decide +kernel
theorem dX9_order_16 : decode cX9_order 16 = .ok (.iload_n 3, 1) := by decide +kernel
theorem dX9_order_17 : decode cX9_order 17 = .ok (.goto 7, 3) := by decide +kernel
theorem dX9_order_20 : decode cX9_order 20 = .ok (.aload_n 0, 1) := by decide +kernel
theorem dX9_order_21 : decode cX9_order 21 = .ok (.getfield 452, 3) := by decide +kernel
theorem dX9_order_24 : decode cX9_order 24 = .ok (.ireturn, 1) := by decide +kernel
theorem dX9_place_0 : decode cX9_place 0 = .ok (.aload_n 0, 1) := by decide +kernel
theorem dX9_place_1 : decode cX9_place 1 = .ok (.iconst 0, 1) := by decide +kernel
theorem dX9_place_2 : decode cX9_place 2 = .ok (.putfield 95, 3) := by decide +kernel
theorem dX9_place_5 : decode cX9_place 5 = .ok (.aload_n 0, 1) := by decide +kernel
theorem dX9_place_6 : decode cX9_place 6 = .ok (.iload_n 1, 1) := by decide +kernel
theorem dX9_place_7 : decode cX9_place 7 = .ok (.iload_n 2, 1) := by decide +kernel
theorem dX9_place_8 : decode cX9_place 8 = .ok (.invokevirtual 458, 3) := by decide +kernel
theorem dX9_place_11 : decode cX9_place 11 = .ok (.istore 4, 2) := by decide +kernel
theorem dX9_place_13 : decode cX9_place 13 = .ok (.iload 4, 2) := by decide +kernel
theorem dX9_place_15 : decode cX9_place 15 = .ok (.ifCond .eq 8, 3) := by decide +kernel
theorem dX9_place_18 : decode cX9_place 18 = .ok (.iload 4, 2) := by decide +kernel
theorem dX9_place_20 : decode cX9_place 20 = .ok (.goto 29, 3) := by decide +kernel
theorem dX9_place_23 : decode cX9_place 23 = .ok (.iload_n 3, 1) := by decide +kernel
theorem dX9_place_24 : decode cX9_place 24 = .ok (.i2l, 1) := by decide +kernel
theorem dX9_place_25 : decode cX9_place 25 = .ok (.lconst 0, 1) := by decide +kernel
theorem dX9_place_26 : decode cX9_place 26 = .ok (.aload_n 0, 1) := by decide +kernel
theorem dX9_place_27 : decode cX9_place 27 = .ok (.getfield 446, 3) := by decide +kernel
theorem dX9_place_30 : decode cX9_place 30 = .ok (.iconst 1, 1) := by decide +kernel
theorem dX9_place_31 : decode cX9_place 31 = .ok (.isub, 1) := by decide +kernel
theorem dX9_place_32 : decode cX9_place 32 = .ok (.i2l, 1) := by decide +kernel
theorem dX9_place_33 : decode cX9_place 33 = .ok (.invokestatic 100, 3) := by decide +kernel
theorem dX9_place_36 : decode cX9_place 36 = .ok (.ifCond .eq 12, 3) := by decide +kernel
theorem dX9_place_39 : decode cX9_place 39 = .ok (.aload_n 0, 1) := by decide +kernel
theorem dX9_place_40 : decode cX9_place 40 = .ok (.getfield 86, 3) := by decide +kernel
theorem dX9_place_43 : decode cX9_place 43 = .ok (.iload_n 3, 1) := by decide +kernel
theorem dX9_place_44 : decode cX9_place 44 = .ok (.iaload, 1) := by decide +kernel
theorem dX9_place_45 : decode cX9_place 45 = .ok (.goto 4, 3) := by decide +kernel
theorem dX9_place_48 : decode cX9_place 48 = .ok (.iconst (-1), 1) := by decide +kernel
theorem dX9_place_49 : decode cX9_place 49 = .ok (.ireturn, 1) := by decide +kernel
theorem dX9_worst_0 : decode cX9_worst 0 = .ok (.aload_n 0, 1) := by decide +kernel
theorem dX9_worst_1 : decode cX9_worst 1 = .ok (.iconst 0, 1) := by decide +kernel
theorem dX9_worst_2 : decode cX9_worst 2 = .ok (.putfield 95, 3) := by decide +kernel
theorem dX9_worst_5 : decode cX9_worst 5 = .ok (.aload_n 0, 1) := by decide +kernel
theorem dX9_worst_6 : decode cX9_worst 6 = .ok (.iload_n 1, 1) := by decide +kernel
theorem dX9_worst_7 : decode cX9_worst 7 = .ok (.iload_n 2, 1) := by decide +kernel
theorem dX9_worst_8 : decode cX9_worst 8 = .ok (.invokevirtual 458, 3) := by decide +kernel
theorem dX9_worst_11 : decode cX9_worst 11 = .ok (.istore_n 3, 1) := by decide +kernel
theorem dX9_worst_12 : decode cX9_worst 12 = .ok (.iload_n 3, 1) := by decide +kernel
theorem dX9_worst_13 : decode cX9_worst 13 = .ok (.ifCond .eq 7, 3) := by decide +kernel
theorem dX9_worst_16 : decode cX9_worst 16 = .ok (.iload_n 3, 1) := by decide +kernel
theorem dX9_worst_17 : decode cX9_worst 17 = .ok (.goto 7, 3) := by decide +kernel
theorem dX9_worst_20 : decode cX9_worst 20 = .ok (.aload_n 0, 1) := by decide +kernel
theorem dX9_worst_21 : decode cX9_worst 21 = .ok (.getfield 449, 3) := by decide +kernel
theorem dX9_worst_24 : decode cX9_worst 24 = .ok (.ireturn, 1) := by decide +kernel
theorem dX9_goesWith_0 : decode cX9_goesWith 0 = .ok (.aload_n 0, 1) := by decide +kernel
theorem dX9_goesWith_1 : decode cX9_goesWith 1 = .ok (.getfield 40, 3) := by decide +kernel
theorem dX9_goesWith_4 : decode cX9_goesWith 4 = .ok (.bipush 8, 2) := by decide +kernel
theorem dX9_goesWith_6 : decode cX9_goesWith 6 = .ok (.iload_n 1, 1) := by decide +kernel
theorem dX9_goesWith_7 : decode cX9_goesWith 7 = .ok (.imul, 1) := by decide +kernel
theorem dX9_goesWith_8 : decode cX9_goesWith 8 = .ok (.iconst 3, 1) := by decide +kernel
theorem dX9_goesWith_9 : decode cX9_goesWith 9 = .ok (.iadd, 1) := by decide +kernel
theorem dX9_goesWith_10 : decode cX9_goesWith 10 = .ok (.iaload, 1) := by decide +kernel
theorem dX9_goesWith_11 : decode cX9_goesWith 11 = .ok (.istore_n 3, 1) := by decide +kernel
theorem dX9_goesWith_12 : decode cX9_goesWith 12 = .ok (.aload_n 0, 1) := by decide +kernel
theorem dX9_goesWith_13 : decode cX9_goesWith 13 = .ok (.getfield 40, 3) := by decide +kernel
theorem dX9_goesWith_16 : decode cX9_goesWith 16 = .ok (.bipush 8, 2) := by decide +kernel
theorem dX9_goesWith_18 : decode cX9_goesWith 18 = .ok (.iload_n 1, 1) := by decide +kernel
theorem dX9_goesWith_19 : decode cX9_goesWith 19 = .ok (.imul, 1) := by decide +kernel
theorem dX9_goesWith_20 : decode cX9_goesWith 20 = .ok (.iconst 3, 1) := by decide +kernel
theorem dX9_goesWith_21 : decode cX9_goesWith 21 = .ok (.iadd, 1) := by decide +kernel
theorem dX9_goesWith_22 : decode cX9_goesWith 22 = .ok (.iload_n 2, 1) := by decide +kernel
theorem dX9_goesWith_23 : decode cX9_goesWith 23 = .ok (.iastore, 1) := by decide +kernel
theorem dX9_goesWith_24 : decode cX9_goesWith 24 = .ok (.aload_n 0, 1) := by decide +kernel
theorem dX9_goesWith_25 : decode cX9_goesWith 25 = .ok (.invokevirtual 404, 3) := by decide +kernel
theorem dX9_goesWith_28 : decode cX9_goesWith 28 = .ok (.aload_n 0, 1) := by decide +kernel
theorem dX9_goesWith_29 : decode cX9_goesWith 29 = .ok (.getfield 40, 3) := by decide +kernel
theorem dX9_goesWith_32 : decode cX9_goesWith 32 = .ok (.bipush 8, 2) := by decide +kernel
theorem dX9_goesWith_34 : decode cX9_goesWith 34 = .ok (.iload_n 1, 1) := by decide +kernel
theorem dX9_goesWith_35 : decode cX9_goesWith 35 = .ok (.imul, 1) := by decide +kernel
theorem dX9_goesWith_36 : decode cX9_goesWith 36 = .ok (.iconst 3, 1) := by decide +kernel
theorem dX9_goesWith_37 : decode cX9_goesWith 37 = .ok (.iadd, 1) := by decide +kernel
theorem dX9_goesWith_38 : decode cX9_goesWith 38 = .ok (.iload_n 3, 1) := by decide +kernel
theorem dX9_goesWith_39 : decode cX9_goesWith 39 = .ok (.iastore, 1) := by decide +kernel
theorem dX9_goesWith_40 : decode cX9_goesWith 40 = .ok (.return_, 1) := by decide +kernel
theorem dX9_longest_0 : decode cX9_longest 0 = .ok (.aload_n 0, 1) := by decide +kernel
theorem dX9_longest_1 : decode cX9_longest 1 = .ok (.iconst 0, 1) := by decide +kernel
theorem dX9_longest_2 : decode cX9_longest 2 = .ok (.putfield 95, 3) := by decide +kernel
theorem dX9_longest_5 : decode cX9_longest 5 = .ok (.aload_n 0, 1) := by decide +kernel
theorem dX9_longest_6 : decode cX9_longest 6 = .ok (.iload_n 1, 1) := by decide +kernel
theorem dX9_longest_7 : decode cX9_longest 7 = .ok (.invokevirtual 270, 3) := by decide +kernel
theorem dX9_longest_10 : decode cX9_longest 10 = .ok (.ifCond .ne 6, 3) := by decide +kernel
theorem dX9_longest_13 : decode cX9_longest 13 = .ok (.bipush (-2), 2) := by decide +kernel
theorem dX9_longest_15 : decode cX9_longest 15 = .ok (.ireturn, 1) := by decide +kernel
theorem dX9_longest_16 : decode cX9_longest 16 = .ok (.aload_n 0, 1) := by decide +kernel
theorem dX9_longest_17 : decode cX9_longest 17 = .ok (.invokevirtual 404, 3) := by decide +kernel
theorem dX9_longest_20 : decode cX9_longest 20 = .ok (.aload_n 0, 1) := by decide +kernel
theorem dX9_longest_21 : decode cX9_longest 21 = .ok (.invokevirtual 428, 3) := by decide +kernel
theorem dX9_longest_24 : decode cX9_longest 24 = .ok (.istore_n 2, 1) := by decide +kernel
theorem dX9_longest_25 : decode cX9_longest 25 = .ok (.bipush 99, 2) := by decide +kernel
theorem dX9_longest_27 : decode cX9_longest 27 = .ok (.istore_n 3, 1) := by decide +kernel
theorem dX9_longest_28 : decode cX9_longest 28 = .ok (.iload_n 3, 1) := by decide +kernel
theorem dX9_longest_29 : decode cX9_longest 29 = .ok (.iconst 1, 1) := by decide +kernel
theorem dX9_longest_30 : decode cX9_longest 30 = .ok (.if_icmp .lt 25, 3) := by decide +kernel
theorem dX9_longest_33 : decode cX9_longest 33 = .ok (.aload_n 0, 1) := by decide +kernel
theorem dX9_longest_34 : decode cX9_longest 34 = .ok (.iload_n 1, 1) := by decide +kernel
theorem dX9_longest_35 : decode cX9_longest 35 = .ok (.iload_n 3, 1) := by decide +kernel
theorem dX9_longest_36 : decode cX9_longest 36 = .ok (.invokevirtual 461, 3) := by decide +kernel
theorem dX9_longest_39 : decode cX9_longest 39 = .ok (.aload_n 0, 1) := by decide +kernel
theorem dX9_longest_40 : decode cX9_longest 40 = .ok (.invokevirtual 428, 3) := by decide +kernel
theorem dX9_longest_43 : decode cX9_longest 43 = .ok (.iload_n 2, 1) := by decide +kernel
theorem dX9_longest_44 : decode cX9_longest 44 = .ok (.if_icmp .lt 5, 3) := by decide +kernel
theorem dX9_longest_47 : decode cX9_longest 47 = .ok (.iload_n 3, 1) := by decide +kernel
theorem dX9_longest_48 : decode cX9_longest 48 = .ok (.ireturn, 1) := by decide +kernel
theorem dX9_longest_49 : decode cX9_longest 49 = .ok (.iinc 3 (-1), 3) := by decide +kernel
theorem dX9_longest_52 : decode cX9_longest 52 = .ok (.goto (-24), 3) := by decide +kernel
theorem dX9_longest_55 : decode cX9_longest 55 = .ok (.iconst (-1), 1) := by decide +kernel
theorem dX9_longest_56 : decode cX9_longest 56 = .ok (.ireturn, 1) := by decide +kernel
theorem dX9_just_0 : decode cX9_just 0 = .ok (.aload_n 0, 1) := by decide +kernel
theorem dX9_just_1 : decode cX9_just 1 = .ok (.iconst 0, 1) := by decide +kernel
theorem dX9_just_2 : decode cX9_just 2 = .ok (.putfield 95, 3) := by decide +kernel
theorem dX9_just_5 : decode cX9_just 5 = .ok (.aload_n 0, 1) := by decide +kernel
theorem dX9_just_6 : decode cX9_just 6 = .ok (.iload_n 1, 1) := by decide +kernel
theorem dX9_just_7 : decode cX9_just 7 = .ok (.invokevirtual 270, 3) := by decide +kernel
theorem dX9_just_10 : decode cX9_just 10 = .ok (.ifCond .eq 21, 3) := by decide +kernel
theorem dX9_just_13 : decode cX9_just 13 = .ok (.aload_n 0, 1) := by decide +kernel
theorem dX9_just_14 : decode cX9_just 14 = .ok (.iload_n 2, 1) := by decide +kernel
theorem dX9_just_15 : decode cX9_just 15 = .ok (.invokevirtual 407, 3) := by decide +kernel
theorem dX9_just_18 : decode cX9_just 18 = .ok (.ifCond .eq 13, 3) := by decide +kernel
theorem dX9_just_21 : decode cX9_just 21 = .ok (.iload_n 3, 1) := by decide +kernel
theorem dX9_just_22 : decode cX9_just 22 = .ok (.i2l, 1) := by decide +kernel
theorem dX9_just_23 : decode cX9_just 23 = .ok (.lconst 0, 1) := by decide +kernel
theorem dX9_just_24 : decode cX9_just 24 = .ok (.lconst 1, 1) := by decide +kernel
theorem dX9_just_25 : decode cX9_just 25 = .ok (.invokestatic 100, 3) := by decide +kernel
theorem dX9_just_28 : decode cX9_just 28 = .ok (.ifCond .ne 6, 3) := by decide +kernel
theorem dX9_just_31 : decode cX9_just 31 = .ok (.bipush (-2), 2) := by decide +kernel
theorem dX9_just_33 : decode cX9_just 33 = .ok (.ireturn, 1) := by decide +kernel
theorem dX9_just_34 : decode cX9_just 34 = .ok (.iconst 1, 1) := by decide +kernel
theorem dX9_just_35 : decode cX9_just 35 = .ok (.istore 4, 2) := by decide +kernel
theorem dX9_just_37 : decode cX9_just 37 = .ok (.iload 4, 2) := by decide +kernel
theorem dX9_just_39 : decode cX9_just 39 = .ok (.bipush 99, 2) := by decide +kernel
theorem dX9_just_41 : decode cX9_just 41 = .ok (.if_icmp .gt 51, 3) := by decide +kernel
theorem dX9_just_44 : decode cX9_just 44 = .ok (.iload_n 3, 1) := by decide +kernel
theorem dX9_just_45 : decode cX9_just 45 = .ok (.ifCond .ne 8, 3) := by decide +kernel
theorem dX9_just_48 : decode cX9_just 48 = .ok (.iload 4, 2) := by decide +kernel
theorem dX9_just_50 : decode cX9_just 50 = .ok (.goto 8, 3) := by decide +kernel
theorem dX9_just_53 : decode cX9_just 53 = .ok (.bipush 100, 2) := by decide +kernel
theorem dX9_just_55 : decode cX9_just 55 = .ok (.iload 4, 2) := by decide +kernel
theorem dX9_just_57 : decode cX9_just 57 = .ok (.isub, 1) := by decide +kernel
theorem dX9_just_58 : decode cX9_just 58 = .ok (.istore 5, 2) := by decide +kernel
theorem dX9_just_60 : decode cX9_just 60 = .ok (.aload_n 0, 1) := by decide +kernel
theorem dX9_just_61 : decode cX9_just 61 = .ok (.iload_n 1, 1) := by decide +kernel
theorem dX9_just_62 : decode cX9_just 62 = .ok (.iload 5, 2) := by decide +kernel
theorem dX9_just_64 : decode cX9_just 64 = .ok (.invokevirtual 461, 3) := by decide +kernel
theorem dX9_just_67 : decode cX9_just 67 = .ok (.aload_n 0, 1) := by decide +kernel
theorem dX9_just_68 : decode cX9_just 68 = .ok (.getfield 53, 3) := by decide +kernel
theorem dX9_just_71 : decode cX9_just 71 = .ok (.iload_n 1, 1) := by decide +kernel
theorem dX9_just_72 : decode cX9_just 72 = .ok (.iaload, 1) := by decide +kernel
theorem dX9_just_73 : decode cX9_just 73 = .ok (.i2l, 1) := by decide +kernel
theorem dX9_just_74 : decode cX9_just 74 = .ok (.lconst 0, 1) := by decide +kernel
theorem dX9_just_75 : decode cX9_just 75 = .ok (.iload_n 2, 1) := by decide +kernel
theorem dX9_just_76 : decode cX9_just 76 = .ok (.i2l, 1) := by decide +kernel
theorem dX9_just_77 : decode cX9_just 77 = .ok (.invokestatic 100, 3) := by decide +kernel
theorem dX9_just_80 : decode cX9_just 80 = .ok (.ifCond .eq 6, 3) := by decide +kernel
theorem dX9_just_83 : decode cX9_just 83 = .ok (.iload 5, 2) := by decide +kernel
theorem dX9_just_85 : decode cX9_just 85 = .ok (.ireturn, 1) := by decide +kernel
theorem dX9_just_86 : decode cX9_just 86 = .ok (.iinc 4 1, 3) := by decide +kernel
theorem dX9_just_89 : decode cX9_just 89 = .ok (.goto (-52), 3) := by decide +kernel
theorem dX9_just_92 : decode cX9_just 92 = .ok (.iconst (-1), 1) := by decide +kernel
theorem dX9_just_93 : decode cX9_just 93 = .ok (.ireturn, 1) := by decide +kernel
theorem dX9_goesWithMore_0 : decode cX9_goesWithMore 0 = .ok (.aload_n 0, 1) := by decide +kernel
theorem dX9_goesWithMore_1 : decode cX9_goesWithMore 1 = .ok (.invokevirtual 393, 3) := by decide +kernel
theorem dX9_goesWithMore_4 : decode cX9_goesWithMore 4 = .ok (.aload_n 0, 1) := by decide +kernel
theorem dX9_goesWithMore_5 : decode cX9_goesWithMore 5 = .ok (.iconst 1, 1) := by decide +kernel
theorem dX9_goesWithMore_6 : decode cX9_goesWithMore 6 = .ok (.putfield 313, 3) := by decide +kernel
theorem dX9_goesWithMore_9 : decode cX9_goesWithMore 9 = .ok (.aload_n 0, 1) := by decide +kernel
theorem dX9_goesWithMore_10 : decode cX9_goesWithMore 10 = .ok (.getfield 47, 3) := by decide +kernel
theorem dX9_goesWithMore_13 : decode cX9_goesWithMore 13 = .ok (.iconst 0, 1) := by decide +kernel
theorem dX9_goesWithMore_14 : decode cX9_goesWithMore 14 = .ok (.iload_n 1, 1) := by decide +kernel
theorem dX9_goesWithMore_15 : decode cX9_goesWithMore 15 = .ok (.iastore, 1) := by decide +kernel
theorem dX9_goesWithMore_16 : decode cX9_goesWithMore 16 = .ok (.aload_n 0, 1) := by decide +kernel
theorem dX9_goesWithMore_17 : decode cX9_goesWithMore 17 = .ok (.getfield 47, 3) := by decide +kernel
theorem dX9_goesWithMore_20 : decode cX9_goesWithMore 20 = .ok (.iconst 1, 1) := by decide +kernel
theorem dX9_goesWithMore_21 : decode cX9_goesWithMore 21 = .ok (.iload_n 2, 1) := by decide +kernel
theorem dX9_goesWithMore_22 : decode cX9_goesWithMore 22 = .ok (.iastore, 1) := by decide +kernel
theorem dX9_goesWithMore_23 : decode cX9_goesWithMore 23 = .ok (.aload_n 0, 1) := by decide +kernel
theorem dX9_goesWithMore_24 : decode cX9_goesWithMore 24 = .ok (.getfield 47, 3) := by decide +kernel
theorem dX9_goesWithMore_27 : decode cX9_goesWithMore 27 = .ok (.iconst 2, 1) := by decide +kernel
theorem dX9_goesWithMore_28 : decode cX9_goesWithMore 28 = .ok (.iload_n 3, 1) := by decide +kernel
theorem dX9_goesWithMore_29 : decode cX9_goesWithMore 29 = .ok (.iastore, 1) := by decide +kernel
theorem dX9_goesWithMore_30 : decode cX9_goesWithMore 30 = .ok (.aload_n 0, 1) := by decide +kernel
theorem dX9_goesWithMore_31 : decode cX9_goesWithMore 31 = .ok (.getfield 47, 3) := by decide +kernel
theorem dX9_goesWithMore_34 : decode cX9_goesWithMore 34 = .ok (.iconst 3, 1) := by decide +kernel
theorem dX9_goesWithMore_35 : decode cX9_goesWithMore 35 = .ok (.iload 4, 2) := by decide +kernel
theorem dX9_goesWithMore_37 : decode cX9_goesWithMore 37 = .ok (.iastore, 1) := by decide +kernel
theorem dX9_goesWithMore_38 : decode cX9_goesWithMore 38 = .ok (.aload_n 0, 1) := by decide +kernel
theorem dX9_goesWithMore_39 : decode cX9_goesWithMore 39 = .ok (.invokevirtual 396, 3) := by decide +kernel
theorem dX9_goesWithMore_42 : decode cX9_goesWithMore 42 = .ok (.aload_n 0, 1) := by decide +kernel
theorem dX9_goesWithMore_43 : decode cX9_goesWithMore 43 = .ok (.iconst 0, 1) := by decide +kernel
theorem dX9_goesWithMore_44 : decode cX9_goesWithMore 44 = .ok (.putfield 313, 3) := by decide +kernel
theorem dX9_goesWithMore_47 : decode cX9_goesWithMore 47 = .ok (.return_, 1) := by decide +kernel
theorem dX9_isLetterMore_0 : decode cX9_isLetterMore 0 = .ok (.aload_n 0, 1) := by decide +kernel
theorem dX9_isLetterMore_1 : decode cX9_isLetterMore 1 = .ok (.iload_n 1, 1) := by decide +kernel
theorem dX9_isLetterMore_2 : decode cX9_isLetterMore 2 = .ok (.invokevirtual 288, 3) := by decide +kernel
theorem dX9_isLetterMore_5 : decode cX9_isLetterMore 5 = .ok (.ifCond .eq 28, 3) := by decide +kernel
theorem dX9_isLetterMore_8 : decode cX9_isLetterMore 8 = .ok (.aload_n 0, 1) := by decide +kernel
theorem dX9_isLetterMore_9 : decode cX9_isLetterMore 9 = .ok (.iload_n 2, 1) := by decide +kernel
theorem dX9_isLetterMore_10 : decode cX9_isLetterMore 10 = .ok (.invokevirtual 288, 3) := by decide +kernel
theorem dX9_isLetterMore_13 : decode cX9_isLetterMore 13 = .ok (.ifCond .eq 20, 3) := by decide +kernel
theorem dX9_isLetterMore_16 : decode cX9_isLetterMore 16 = .ok (.iload_n 1, 1) := by decide +kernel
theorem dX9_isLetterMore_17 : decode cX9_isLetterMore 17 = .ok (.iload_n 2, 1) := by decide +kernel
theorem dX9_isLetterMore_18 : decode cX9_isLetterMore 18 = .ok (.if_icmp .eq 15, 3) := by decide +kernel
theorem dX9_isLetterMore_21 : decode cX9_isLetterMore 21 = .ok (.aload_n 0, 1) := by decide +kernel
theorem dX9_isLetterMore_22 : decode cX9_isLetterMore 22 = .ok (.iload_n 3, 1) := by decide +kernel
theorem dX9_isLetterMore_23 : decode cX9_isLetterMore 23 = .ok (.invokevirtual 407, 3) := by decide +kernel
theorem dX9_isLetterMore_26 : decode cX9_isLetterMore 26 = .ok (.ifCond .eq 7, 3) := by decide +kernel
theorem dX9_isLetterMore_29 : decode cX9_isLetterMore 29 = .ok (.iconst 1, 1) := by decide +kernel
theorem dX9_isLetterMore_30 : decode cX9_isLetterMore 30 = .ok (.goto 4, 3) := by decide +kernel
theorem dX9_isLetterMore_33 : decode cX9_isLetterMore 33 = .ok (.iconst 0, 1) := by decide +kernel
theorem dX9_isLetterMore_34 : decode cX9_isLetterMore 34 = .ok (.ireturn, 1) := by decide +kernel
theorem dX9_stop_0 : decode cX9_stop 0 = .ok (.aload_n 0, 1) := by decide +kernel
theorem dX9_stop_1 : decode cX9_stop 1 = .ok (.iconst 0, 1) := by decide +kernel
theorem dX9_stop_2 : decode cX9_stop 2 = .ok (.putfield 95, 3) := by decide +kernel
theorem dX9_stop_5 : decode cX9_stop 5 = .ok (.aload_n 0, 1) := by decide +kernel
theorem dX9_stop_6 : decode cX9_stop 6 = .ok (.iload_n 1, 1) := by decide +kernel
theorem dX9_stop_7 : decode cX9_stop 7 = .ok (.iload_n 2, 1) := by decide +kernel
theorem dX9_stop_8 : decode cX9_stop 8 = .ok (.iload_n 3, 1) := by decide +kernel
theorem dX9_stop_9 : decode cX9_stop 9 = .ok (.invokevirtual 464, 3) := by decide +kernel
theorem dX9_stop_12 : decode cX9_stop 12 = .ok (.ifCond .eq 29, 3) := by decide +kernel
theorem dX9_stop_15 : decode cX9_stop 15 = .ok (.iload 4, 2) := by decide +kernel
theorem dX9_stop_17 : decode cX9_stop 17 = .ok (.i2l, 1) := by decide +kernel
theorem dX9_stop_18 : decode cX9_stop 18 = .ok (.lconst 1, 1) := by decide +kernel
theorem dX9_stop_19 : decode cX9_stop 19 = .ok (.ldc2_w 293, 3) := by decide +kernel
theorem dX9_stop_22 : decode cX9_stop 22 = .ok (.invokestatic 100, 3) := by decide +kernel
theorem dX9_stop_25 : decode cX9_stop 25 = .ok (.ifCond .eq 16, 3) := by decide +kernel
theorem dX9_stop_28 : decode cX9_stop 28 = .ok (.iload 5, 2) := by decide +kernel
theorem dX9_stop_30 : decode cX9_stop 30 = .ok (.i2l, 1) := by decide +kernel
theorem dX9_stop_31 : decode cX9_stop 31 = .ok (.lconst 0, 1) := by decide +kernel
theorem dX9_stop_32 : decode cX9_stop 32 = .ok (.ldc2_w 98, 3) := by decide +kernel
theorem dX9_stop_35 : decode cX9_stop 35 = .ok (.invokestatic 100, 3) := by decide +kernel
theorem dX9_stop_38 : decode cX9_stop 38 = .ok (.ifCond .ne 6, 3) := by decide +kernel
theorem dX9_stop_41 : decode cX9_stop 41 = .ok (.bipush (-2), 2) := by decide +kernel
theorem dX9_stop_43 : decode cX9_stop 43 = .ok (.ireturn, 1) := by decide +kernel
theorem dX9_stop_44 : decode cX9_stop 44 = .ok (.aload_n 0, 1) := by decide +kernel
theorem dX9_stop_45 : decode cX9_stop 45 = .ok (.invokevirtual 404, 3) := by decide +kernel
theorem dX9_stop_48 : decode cX9_stop 48 = .ok (.aload_n 0, 1) := by decide +kernel
theorem dX9_stop_49 : decode cX9_stop 49 = .ok (.invokevirtual 428, 3) := by decide +kernel
theorem dX9_stop_52 : decode cX9_stop 52 = .ok (.istore 6, 2) := by decide +kernel
theorem dX9_stop_54 : decode cX9_stop 54 = .ok (.iconst 0, 1) := by decide +kernel
theorem dX9_stop_55 : decode cX9_stop 55 = .ok (.istore 7, 2) := by decide +kernel
theorem dX9_stop_57 : decode cX9_stop 57 = .ok (.iload 7, 2) := by decide +kernel
theorem dX9_stop_59 : decode cX9_stop 59 = .ok (.aload_n 0, 1) := by decide +kernel
theorem dX9_stop_60 : decode cX9_stop 60 = .ok (.getfield 34, 3) := by decide +kernel
theorem dX9_stop_63 : decode cX9_stop 63 = .ok (.iconst 3, 1) := by decide +kernel
theorem dX9_stop_64 : decode cX9_stop 64 = .ok (.iaload, 1) := by decide +kernel
theorem dX9_stop_65 : decode cX9_stop 65 = .ok (.if_icmp .ge 23, 3) := by decide +kernel
theorem dX9_stop_68 : decode cX9_stop 68 = .ok (.aload_n 0, 1) := by decide +kernel
theorem dX9_stop_69 : decode cX9_stop 69 = .ok (.getfield 89, 3) := by decide +kernel
theorem dX9_stop_72 : decode cX9_stop 72 = .ok (.iload 7, 2) := by decide +kernel
theorem dX9_stop_74 : decode cX9_stop 74 = .ok (.aload_n 0, 1) := by decide +kernel
theorem dX9_stop_75 : decode cX9_stop 75 = .ok (.getfield 53, 3) := by decide +kernel
theorem dX9_stop_78 : decode cX9_stop 78 = .ok (.iload 7, 2) := by decide +kernel
theorem dX9_stop_80 : decode cX9_stop 80 = .ok (.iaload, 1) := by decide +kernel
theorem dX9_stop_81 : decode cX9_stop 81 = .ok (.iastore, 1) := by decide +kernel
theorem dX9_stop_82 : decode cX9_stop 82 = .ok (.iinc 7 1, 3) := by decide +kernel
theorem dX9_stop_85 : decode cX9_stop 85 = .ok (.goto (-28), 3) := by decide +kernel
theorem dX9_stop_88 : decode cX9_stop 88 = .ok (.aload_n 0, 1) := by decide +kernel
theorem dX9_stop_89 : decode cX9_stop 89 = .ok (.iload_n 1, 1) := by decide +kernel
theorem dX9_stop_90 : decode cX9_stop 90 = .ok (.iload_n 2, 1) := by decide +kernel
theorem dX9_stop_91 : decode cX9_stop 91 = .ok (.iload_n 3, 1) := by decide +kernel
theorem dX9_stop_92 : decode cX9_stop 92 = .ok (.iload 4, 2) := by decide +kernel
theorem dX9_stop_94 : decode cX9_stop 94 = .ok (.invokevirtual 467, 3) := by decide +kernel
theorem dX9_stop_97 : decode cX9_stop 97 = .ok (.iconst 0, 1) := by decide +kernel
theorem dX9_stop_98 : decode cX9_stop 98 = .ok (.istore 7, 2) := by decide +kernel
theorem dX9_stop_100 : decode cX9_stop 100 = .ok (.iconst 0, 1) := by decide +kernel
theorem dX9_stop_101 : decode cX9_stop 101 = .ok (.istore 8, 2) := by decide +kernel
theorem dX9_stop_103 : decode cX9_stop 103 = .ok (.iconst 0, 1) := by decide +kernel
theorem dX9_stop_104 : decode cX9_stop 104 = .ok (.istore 9, 2) := by decide +kernel
theorem dX9_stop_106 : decode cX9_stop 106 = .ok (.iconst 0, 1) := by decide +kernel
theorem dX9_stop_107 : decode cX9_stop 107 = .ok (.istore 10, 2) := by decide +kernel
theorem dX9_stop_109 : decode cX9_stop 109 = .ok (.iload 10, 2) := by decide +kernel
theorem dX9_stop_111 : decode cX9_stop 111 = .ok (.aload_n 0, 1) := by decide +kernel
theorem dX9_stop_112 : decode cX9_stop 112 = .ok (.getfield 34, 3) := by decide +kernel
theorem dX9_stop_115 : decode cX9_stop 115 = .ok (.iconst 3, 1) := by decide +kernel
theorem dX9_stop_116 : decode cX9_stop 116 = .ok (.iaload, 1) := by decide +kernel
theorem dX9_stop_117 : decode cX9_stop 117 = .ok (.if_icmp .ge 95, 3) := by decide +kernel
theorem dX9_stop_120 : decode cX9_stop 120 = .ok (.aload_n 0, 1) := by decide +kernel
theorem dX9_stop_121 : decode cX9_stop 121 = .ok (.getfield 53, 3) := by decide +kernel
theorem dX9_stop_124 : decode cX9_stop 124 = .ok (.iload 10, 2) := by decide +kernel
theorem dX9_stop_126 : decode cX9_stop 126 = .ok (.iaload, 1) := by decide +kernel
theorem dX9_stop_127 : decode cX9_stop 127 = .ok (.iconst (-1), 1) := by decide +kernel
theorem dX9_stop_128 : decode cX9_stop 128 = .ok (.if_icmp .ne 12, 3) := by decide +kernel
theorem dX9_stop_131 : decode cX9_stop 131 = .ok (.aload_n 0, 1) := by decide +kernel
theorem dX9_stop_132 : decode cX9_stop 132 = .ok (.getfield 34, 3) := by decide +kernel
theorem dX9_stop_135 : decode cX9_stop 135 = .ok (.iconst 0, 1) := by decide +kernel
theorem dX9_stop_136 : decode cX9_stop 136 = .ok (.iaload, 1) := by decide +kernel
theorem dX9_stop_137 : decode cX9_stop 137 = .ok (.goto 10, 3) := by decide +kernel
theorem dX9_stop_140 : decode cX9_stop 140 = .ok (.aload_n 0, 1) := by decide +kernel
theorem dX9_stop_141 : decode cX9_stop 141 = .ok (.getfield 53, 3) := by decide +kernel
theorem dX9_stop_144 : decode cX9_stop 144 = .ok (.iload 10, 2) := by decide +kernel
theorem dX9_stop_146 : decode cX9_stop 146 = .ok (.iaload, 1) := by decide +kernel
theorem dX9_stop_147 : decode cX9_stop 147 = .ok (.istore 11, 2) := by decide +kernel
theorem dX9_stop_149 : decode cX9_stop 149 = .ok (.aload_n 0, 1) := by decide +kernel
theorem dX9_stop_150 : decode cX9_stop 150 = .ok (.getfield 89, 3) := by decide +kernel
theorem dX9_stop_153 : decode cX9_stop 153 = .ok (.iload 10, 2) := by decide +kernel
theorem dX9_stop_155 : decode cX9_stop 155 = .ok (.iaload, 1) := by decide +kernel
theorem dX9_stop_156 : decode cX9_stop 156 = .ok (.iconst (-1), 1) := by decide +kernel
theorem dX9_stop_157 : decode cX9_stop 157 = .ok (.if_icmp .eq 49, 3) := by decide +kernel
theorem dX9_stop_160 : decode cX9_stop 160 = .ok (.iload 11, 2) := by decide +kernel
theorem dX9_stop_162 : decode cX9_stop 162 = .ok (.aload_n 0, 1) := by decide +kernel
theorem dX9_stop_163 : decode cX9_stop 163 = .ok (.getfield 89, 3) := by decide +kernel
theorem dX9_stop_166 : decode cX9_stop 166 = .ok (.iload 10, 2) := by decide +kernel
theorem dX9_stop_168 : decode cX9_stop 168 = .ok (.iaload, 1) := by decide +kernel
theorem dX9_stop_169 : decode cX9_stop 169 = .ok (.if_icmp .gt 6, 3) := by decide +kernel
theorem dX9_stop_172 : decode cX9_stop 172 = .ok (.goto 34, 3) := by decide +kernel
theorem dX9_stop_175 : decode cX9_stop 175 = .ok (.iinc 7 1, 3) := by decide +kernel
theorem dX9_stop_178 : decode cX9_stop 178 = .ok (.iload 8, 2) := by decide +kernel
theorem dX9_stop_180 : decode cX9_stop 180 = .ok (.iload 11, 2) := by decide +kernel
theorem dX9_stop_182 : decode cX9_stop 182 = .ok (.aload_n 0, 1) := by decide +kernel
theorem dX9_stop_183 : decode cX9_stop 183 = .ok (.getfield 89, 3) := by decide +kernel
theorem dX9_stop_186 : decode cX9_stop 186 = .ok (.iload 10, 2) := by decide +kernel
theorem dX9_stop_188 : decode cX9_stop 188 = .ok (.iaload, 1) := by decide +kernel
theorem dX9_stop_189 : decode cX9_stop 189 = .ok (.isub, 1) := by decide +kernel
theorem dX9_stop_190 : decode cX9_stop 190 = .ok (.iadd, 1) := by decide +kernel
theorem dX9_stop_191 : decode cX9_stop 191 = .ok (.istore 8, 2) := by decide +kernel
theorem dX9_stop_193 : decode cX9_stop 193 = .ok (.iload 9, 2) := by decide +kernel
theorem dX9_stop_195 : decode cX9_stop 195 = .ok (.iconst 1, 1) := by decide +kernel
theorem dX9_stop_196 : decode cX9_stop 196 = .ok (.aload_n 0, 1) := by decide +kernel
theorem dX9_stop_197 : decode cX9_stop 197 = .ok (.iload 10, 2) := by decide +kernel
theorem dX9_stop_199 : decode cX9_stop 199 = .ok (.invokevirtual 279, 3) := by decide +kernel
theorem dX9_stop_202 : decode cX9_stop 202 = .ok (.ishl, 1) := by decide +kernel
theorem dX9_stop_203 : decode cX9_stop 203 = .ok (.ior, 1) := by decide +kernel
theorem dX9_stop_204 : decode cX9_stop 204 = .ok (.istore 9, 2) := by decide +kernel
theorem dX9_stop_206 : decode cX9_stop 206 = .ok (.iinc 10 1, 3) := by decide +kernel
theorem dX9_stop_209 : decode cX9_stop 209 = .ok (.goto (-100), 3) := by decide +kernel
theorem dX9_stop_212 : decode cX9_stop 212 = .ok (.iload 5, 2) := by decide +kernel
theorem dX9_stop_214 : decode cX9_stop 214 = .ok (.ifCond .ne 8, 3) := by decide +kernel
theorem dX9_stop_217 : decode cX9_stop 217 = .ok (.iload 7, 2) := by decide +kernel
theorem dX9_stop_219 : decode cX9_stop 219 = .ok (.goto 32, 3) := by decide +kernel
theorem dX9_stop_222 : decode cX9_stop 222 = .ok (.iload 5, 2) := by decide +kernel
theorem dX9_stop_224 : decode cX9_stop 224 = .ok (.iconst 1, 1) := by decide +kernel
theorem dX9_stop_225 : decode cX9_stop 225 = .ok (.if_icmp .ne 8, 3) := by decide +kernel
theorem dX9_stop_228 : decode cX9_stop 228 = .ok (.iload 8, 2) := by decide +kernel
theorem dX9_stop_230 : decode cX9_stop 230 = .ok (.goto 21, 3) := by decide +kernel
theorem dX9_stop_233 : decode cX9_stop 233 = .ok (.iload 5, 2) := by decide +kernel
theorem dX9_stop_235 : decode cX9_stop 235 = .ok (.iconst 2, 1) := by decide +kernel
theorem dX9_stop_236 : decode cX9_stop 236 = .ok (.if_icmp .ne 8, 3) := by decide +kernel
theorem dX9_stop_239 : decode cX9_stop 239 = .ok (.iload 9, 2) := by decide +kernel
theorem dX9_stop_241 : decode cX9_stop 241 = .ok (.goto 10, 3) := by decide +kernel
theorem dX9_stop_244 : decode cX9_stop 244 = .ok (.iload 6, 2) := by decide +kernel
theorem dX9_stop_246 : decode cX9_stop 246 = .ok (.aload_n 0, 1) := by decide +kernel
theorem dX9_stop_247 : decode cX9_stop 247 = .ok (.invokevirtual 428, 3) := by decide +kernel
theorem dX9_stop_250 : decode cX9_stop 250 = .ok (.isub, 1) := by decide +kernel
theorem dX9_stop_251 : decode cX9_stop 251 = .ok (.ireturn, 1) := by decide +kernel
theorem dX9_hold_0 : decode cX9_hold 0 = .ok (.aload_n 0, 1) := by decide +kernel
theorem dX9_hold_1 : decode cX9_hold 1 = .ok (.iconst 0, 1) := by decide +kernel
theorem dX9_hold_2 : decode cX9_hold 2 = .ok (.putfield 95, 3) := by decide +kernel
theorem dX9_hold_5 : decode cX9_hold 5 = .ok (.aload_n 0, 1) := by decide +kernel
theorem dX9_hold_6 : decode cX9_hold 6 = .ok (.iload_n 1, 1) := by decide +kernel
theorem dX9_hold_7 : decode cX9_hold 7 = .ok (.iload_n 2, 1) := by decide +kernel
theorem dX9_hold_8 : decode cX9_hold 8 = .ok (.iload_n 3, 1) := by decide +kernel
theorem dX9_hold_9 : decode cX9_hold 9 = .ok (.invokevirtual 464, 3) := by decide +kernel
theorem dX9_hold_12 : decode cX9_hold 12 = .ok (.ifCond .eq 21, 3) := by decide +kernel
theorem dX9_hold_15 : decode cX9_hold 15 = .ok (.aload_n 0, 1) := by decide +kernel
theorem dX9_hold_16 : decode cX9_hold 16 = .ok (.iload 4, 2) := by decide +kernel
theorem dX9_hold_18 : decode cX9_hold 18 = .ok (.invokevirtual 270, 3) := by decide +kernel
theorem dX9_hold_21 : decode cX9_hold 21 = .ok (.ifCond .eq 12, 3) := by decide +kernel
theorem dX9_hold_24 : decode cX9_hold 24 = .ok (.aload_n 0, 1) := by decide +kernel
theorem dX9_hold_25 : decode cX9_hold 25 = .ok (.iload 5, 2) := by decide +kernel
theorem dX9_hold_27 : decode cX9_hold 27 = .ok (.invokevirtual 407, 3) := by decide +kernel
theorem dX9_hold_30 : decode cX9_hold 30 = .ok (.ifCond .ne 6, 3) := by decide +kernel
theorem dX9_hold_33 : decode cX9_hold 33 = .ok (.bipush (-2), 2) := by decide +kernel
theorem dX9_hold_35 : decode cX9_hold 35 = .ok (.ireturn, 1) := by decide +kernel
theorem dX9_hold_36 : decode cX9_hold 36 = .ok (.iconst 1, 1) := by decide +kernel
theorem dX9_hold_37 : decode cX9_hold 37 = .ok (.istore 6, 2) := by decide +kernel
theorem dX9_hold_39 : decode cX9_hold 39 = .ok (.iload 6, 2) := by decide +kernel
theorem dX9_hold_41 : decode cX9_hold 41 = .ok (.bipush 99, 2) := by decide +kernel
theorem dX9_hold_43 : decode cX9_hold 43 = .ok (.if_icmp .gt 39, 3) := by decide +kernel
theorem dX9_hold_46 : decode cX9_hold 46 = .ok (.aload_n 0, 1) := by decide +kernel
theorem dX9_hold_47 : decode cX9_hold 47 = .ok (.iload_n 1, 1) := by decide +kernel
theorem dX9_hold_48 : decode cX9_hold 48 = .ok (.iload_n 2, 1) := by decide +kernel
theorem dX9_hold_49 : decode cX9_hold 49 = .ok (.iload_n 3, 1) := by decide +kernel
theorem dX9_hold_50 : decode cX9_hold 50 = .ok (.iload 6, 2) := by decide +kernel
theorem dX9_hold_52 : decode cX9_hold 52 = .ok (.invokevirtual 467, 3) := by decide +kernel
theorem dX9_hold_55 : decode cX9_hold 55 = .ok (.aload_n 0, 1) := by decide +kernel
theorem dX9_hold_56 : decode cX9_hold 56 = .ok (.getfield 53, 3) := by decide +kernel
theorem dX9_hold_59 : decode cX9_hold 59 = .ok (.iload 4, 2) := by decide +kernel
theorem dX9_hold_61 : decode cX9_hold 61 = .ok (.iaload, 1) := by decide +kernel
theorem dX9_hold_62 : decode cX9_hold 62 = .ok (.i2l, 1) := by decide +kernel
theorem dX9_hold_63 : decode cX9_hold 63 = .ok (.lconst 0, 1) := by decide +kernel
theorem dX9_hold_64 : decode cX9_hold 64 = .ok (.iload 5, 2) := by decide +kernel
theorem dX9_hold_66 : decode cX9_hold 66 = .ok (.i2l, 1) := by decide +kernel
theorem dX9_hold_67 : decode cX9_hold 67 = .ok (.invokestatic 100, 3) := by decide +kernel
theorem dX9_hold_70 : decode cX9_hold 70 = .ok (.ifCond .ne 6, 3) := by decide +kernel
theorem dX9_hold_73 : decode cX9_hold 73 = .ok (.iload 6, 2) := by decide +kernel
theorem dX9_hold_75 : decode cX9_hold 75 = .ok (.ireturn, 1) := by decide +kernel
theorem dX9_hold_76 : decode cX9_hold 76 = .ok (.iinc 6 1, 3) := by decide +kernel
theorem dX9_hold_79 : decode cX9_hold 79 = .ok (.goto (-40), 3) := by decide +kernel
theorem dX9_hold_82 : decode cX9_hold 82 = .ok (.iconst (-1), 1) := by decide +kernel
theorem dX9_hold_83 : decode cX9_hold 83 = .ok (.ireturn, 1) := by decide +kernel
theorem dX9_visitWorth_0 : decode cX9_visitWorth 0 = .ok (.aload_n 0, 1) := by decide +kernel
theorem dX9_visitWorth_1 : decode cX9_visitWorth 1 = .ok (.invokevirtual 393, 3) := by decide +kernel
theorem dX9_visitWorth_4 : decode cX9_visitWorth 4 = .ok (.aload_n 0, 1) := by decide +kernel
theorem dX9_visitWorth_5 : decode cX9_visitWorth 5 = .ok (.iload_n 1, 1) := by decide +kernel
theorem dX9_visitWorth_6 : decode cX9_visitWorth 6 = .ok (.putfield 307, 3) := by decide +kernel
theorem dX9_visitWorth_9 : decode cX9_visitWorth 9 = .ok (.aload_n 0, 1) := by decide +kernel
theorem dX9_visitWorth_10 : decode cX9_visitWorth 10 = .ok (.iload_n 2, 1) := by decide +kernel
theorem dX9_visitWorth_11 : decode cX9_visitWorth 11 = .ok (.putfield 359, 3) := by decide +kernel
theorem dX9_visitWorth_14 : decode cX9_visitWorth 14 = .ok (.aload_n 0, 1) := by decide +kernel
theorem dX9_visitWorth_15 : decode cX9_visitWorth 15 = .ok (.iload_n 3, 1) := by decide +kernel
theorem dX9_visitWorth_16 : decode cX9_visitWorth 16 = .ok (.putfield 365, 3) := by decide +kernel
theorem dX9_visitWorth_19 : decode cX9_visitWorth 19 = .ok (.aload_n 0, 1) := by decide +kernel
theorem dX9_visitWorth_20 : decode cX9_visitWorth 20 = .ok (.invokevirtual 396, 3) := by decide +kernel
theorem dX9_visitWorth_23 : decode cX9_visitWorth 23 = .ok (.aload_n 0, 1) := by decide +kernel
theorem dX9_visitWorth_24 : decode cX9_visitWorth 24 = .ok (.invokevirtual 428, 3) := by decide +kernel
theorem dX9_visitWorth_27 : decode cX9_visitWorth 27 = .ok (.ireturn, 1) := by decide +kernel
theorem dX9_isVisit_0 : decode cX9_isVisit 0 = .ok (.iload_n 0, 1) := by decide +kernel
theorem dX9_isVisit_1 : decode cX9_isVisit 1 = .ok (.i2l, 1) := by decide +kernel
theorem dX9_isVisit_2 : decode cX9_isVisit 2 = .ok (.lconst 0, 1) := by decide +kernel
theorem dX9_isVisit_3 : decode cX9_isVisit 3 = .ok (.ldc2_w 471, 3) := by decide +kernel
theorem dX9_isVisit_6 : decode cX9_isVisit 6 = .ok (.invokestatic 100, 3) := by decide +kernel
theorem dX9_isVisit_9 : decode cX9_isVisit 9 = .ok (.ireturn, 1) := by decide +kernel
theorem dX9_visit_0 : decode cX9_visit 0 = .ok (.aload_n 0, 1) := by decide +kernel
theorem dX9_visit_1 : decode cX9_visit 1 = .ok (.iconst 0, 1) := by decide +kernel
theorem dX9_visit_2 : decode cX9_visit 2 = .ok (.putfield 95, 3) := by decide +kernel
theorem dX9_visit_5 : decode cX9_visit 5 = .ok (.aload_n 0, 1) := by decide +kernel
theorem dX9_visit_6 : decode cX9_visit 6 = .ok (.iload_n 1, 1) := by decide +kernel
theorem dX9_visit_7 : decode cX9_visit 7 = .ok (.invokevirtual 270, 3) := by decide +kernel
theorem dX9_visit_10 : decode cX9_visit 10 = .ok (.ifCond .eq 28, 3) := by decide +kernel
theorem dX9_visit_13 : decode cX9_visit 13 = .ok (.aload_n 0, 1) := by decide +kernel
theorem dX9_visit_14 : decode cX9_visit 14 = .ok (.iload_n 2, 1) := by decide +kernel
theorem dX9_visit_15 : decode cX9_visit 15 = .ok (.invokevirtual 407, 3) := by decide +kernel
theorem dX9_visit_18 : decode cX9_visit 18 = .ok (.ifCond .eq 20, 3) := by decide +kernel
theorem dX9_visit_21 : decode cX9_visit 21 = .ok (.iload_n 3, 1) := by decide +kernel
theorem dX9_visit_22 : decode cX9_visit 22 = .ok (.invokestatic 473, 3) := by decide +kernel
theorem dX9_visit_25 : decode cX9_visit 25 = .ok (.ifCond .eq 13, 3) := by decide +kernel
theorem dX9_visit_28 : decode cX9_visit 28 = .ok (.aload_n 0, 1) := by decide +kernel
theorem dX9_visit_29 : decode cX9_visit 29 = .ok (.iload_n 1, 1) := by decide +kernel
theorem dX9_visit_30 : decode cX9_visit 30 = .ok (.iload_n 2, 1) := by decide +kernel
theorem dX9_visit_31 : decode cX9_visit 31 = .ok (.iload_n 3, 1) := by decide +kernel
theorem dX9_visit_32 : decode cX9_visit 32 = .ok (.invokevirtual 476, 3) := by decide +kernel
theorem dX9_visit_35 : decode cX9_visit 35 = .ok (.goto 5, 3) := by decide +kernel
theorem dX9_visit_38 : decode cX9_visit 38 = .ok (.bipush (-2), 2) := by decide +kernel
theorem dX9_visit_40 : decode cX9_visit 40 = .ok (.ireturn, 1) := by decide +kernel
theorem dX9_paysOf_0 : decode cX9_paysOf 0 = .ok (.aload_n 0, 1) := by decide +kernel
theorem dX9_paysOf_1 : decode cX9_paysOf 1 = .ok (.invokevirtual 404, 3) := by decide +kernel
theorem dX9_paysOf_4 : decode cX9_paysOf 4 = .ok (.aload_n 0, 1) := by decide +kernel
theorem dX9_paysOf_5 : decode cX9_paysOf 5 = .ok (.aload_n 0, 1) := by decide +kernel
theorem dX9_paysOf_6 : decode cX9_paysOf 6 = .ok (.invokevirtual 428, 3) := by decide +kernel
theorem dX9_paysOf_9 : decode cX9_paysOf 9 = .ok (.putfield 479, 3) := by decide +kernel
theorem dX9_paysOf_12 : decode cX9_paysOf 12 = .ok (.iconst (-1), 1) := by decide +kernel
theorem dX9_paysOf_13 : decode cX9_paysOf 13 = .ok (.istore_n 3, 1) := by decide +kernel
theorem dX9_paysOf_14 : decode cX9_paysOf 14 = .ok (.iconst 0, 1) := by decide +kernel
theorem dX9_paysOf_15 : decode cX9_paysOf 15 = .ok (.istore 4, 2) := by decide +kernel
theorem dX9_paysOf_17 : decode cX9_paysOf 17 = .ok (.iload 4, 2) := by decide +kernel
theorem dX9_paysOf_19 : decode cX9_paysOf 19 = .ok (.aload_n 0, 1) := by decide +kernel
theorem dX9_paysOf_20 : decode cX9_paysOf 20 = .ok (.getfield 34, 3) := by decide +kernel
theorem dX9_paysOf_23 : decode cX9_paysOf 23 = .ok (.iconst 0, 1) := by decide +kernel
theorem dX9_paysOf_24 : decode cX9_paysOf 24 = .ok (.iaload, 1) := by decide +kernel
theorem dX9_paysOf_25 : decode cX9_paysOf 25 = .ok (.if_icmp .ge 40, 3) := by decide +kernel
theorem dX9_paysOf_28 : decode cX9_paysOf 28 = .ok (.aload_n 0, 1) := by decide +kernel
theorem dX9_paysOf_29 : decode cX9_paysOf 29 = .ok (.iload_n 1, 1) := by decide +kernel
theorem dX9_paysOf_30 : decode cX9_paysOf 30 = .ok (.iload 4, 2) := by decide +kernel
theorem dX9_paysOf_32 : decode cX9_paysOf 32 = .ok (.iload_n 2, 1) := by decide +kernel
theorem dX9_paysOf_33 : decode cX9_paysOf 33 = .ok (.invokevirtual 476, 3) := by decide +kernel
theorem dX9_paysOf_36 : decode cX9_paysOf 36 = .ok (.istore 5, 2) := by decide +kernel
theorem dX9_paysOf_38 : decode cX9_paysOf 38 = .ok (.iload 5, 2) := by decide +kernel
theorem dX9_paysOf_40 : decode cX9_paysOf 40 = .ok (.aload_n 0, 1) := by decide +kernel
theorem dX9_paysOf_41 : decode cX9_paysOf 41 = .ok (.getfield 479, 3) := by decide +kernel
theorem dX9_paysOf_44 : decode cX9_paysOf 44 = .ok (.if_icmp .gt 6, 3) := by decide +kernel
theorem dX9_paysOf_47 : decode cX9_paysOf 47 = .ok (.goto 12, 3) := by decide +kernel
theorem dX9_paysOf_50 : decode cX9_paysOf 50 = .ok (.iload 4, 2) := by decide +kernel
theorem dX9_paysOf_52 : decode cX9_paysOf 52 = .ok (.istore_n 3, 1) := by decide +kernel
theorem dX9_paysOf_53 : decode cX9_paysOf 53 = .ok (.aload_n 0, 1) := by decide +kernel
theorem dX9_paysOf_54 : decode cX9_paysOf 54 = .ok (.iload 5, 2) := by decide +kernel
theorem dX9_paysOf_56 : decode cX9_paysOf 56 = .ok (.putfield 479, 3) := by decide +kernel
theorem dX9_paysOf_59 : decode cX9_paysOf 59 = .ok (.iinc 4 1, 3) := by decide +kernel
theorem dX9_paysOf_62 : decode cX9_paysOf 62 = .ok (.goto (-45), 3) := by decide +kernel
theorem dX9_paysOf_65 : decode cX9_paysOf 65 = .ok (.iload_n 3, 1) := by decide +kernel
theorem dX9_paysOf_66 : decode cX9_paysOf 66 = .ok (.ireturn, 1) := by decide +kernel
theorem dX9_pays_0 : decode cX9_pays 0 = .ok (.aload_n 0, 1) := by decide +kernel
theorem dX9_pays_1 : decode cX9_pays 1 = .ok (.iconst 0, 1) := by decide +kernel
theorem dX9_pays_2 : decode cX9_pays 2 = .ok (.putfield 95, 3) := by decide +kernel
theorem dX9_pays_5 : decode cX9_pays 5 = .ok (.aload_n 0, 1) := by decide +kernel
theorem dX9_pays_6 : decode cX9_pays 6 = .ok (.iload_n 1, 1) := by decide +kernel
theorem dX9_pays_7 : decode cX9_pays 7 = .ok (.invokevirtual 270, 3) := by decide +kernel
theorem dX9_pays_10 : decode cX9_pays 10 = .ok (.ifCond .eq 19, 3) := by decide +kernel
theorem dX9_pays_13 : decode cX9_pays 13 = .ok (.iload_n 2, 1) := by decide +kernel
theorem dX9_pays_14 : decode cX9_pays 14 = .ok (.invokestatic 473, 3) := by decide +kernel
theorem dX9_pays_17 : decode cX9_pays 17 = .ok (.ifCond .eq 12, 3) := by decide +kernel
theorem dX9_pays_20 : decode cX9_pays 20 = .ok (.aload_n 0, 1) := by decide +kernel
theorem dX9_pays_21 : decode cX9_pays 21 = .ok (.iload_n 1, 1) := by decide +kernel
theorem dX9_pays_22 : decode cX9_pays 22 = .ok (.iload_n 2, 1) := by decide +kernel
theorem dX9_pays_23 : decode cX9_pays 23 = .ok (.invokevirtual 482, 3) := by decide +kernel
theorem dX9_pays_26 : decode cX9_pays 26 = .ok (.goto 5, 3) := by decide +kernel
theorem dX9_pays_29 : decode cX9_pays 29 = .ok (.bipush (-2), 2) := by decide +kernel
theorem dX9_pays_31 : decode cX9_pays 31 = .ok (.ireturn, 1) := by decide +kernel
theorem dX9_instead_0 : decode cX9_instead 0 = .ok (.aload_n 0, 1) := by decide +kernel
theorem dX9_instead_1 : decode cX9_instead 1 = .ok (.iconst 0, 1) := by decide +kernel
theorem dX9_instead_2 : decode cX9_instead 2 = .ok (.putfield 95, 3) := by decide +kernel
theorem dX9_instead_5 : decode cX9_instead 5 = .ok (.aload_n 0, 1) := by decide +kernel
theorem dX9_instead_6 : decode cX9_instead 6 = .ok (.invokevirtual 295, 3) := by decide +kernel
theorem dX9_instead_9 : decode cX9_instead 9 = .ok (.ifCond .eq 10, 3) := by decide +kernel
theorem dX9_instead_12 : decode cX9_instead 12 = .ok (.iload_n 1, 1) := by decide +kernel
theorem dX9_instead_13 : decode cX9_instead 13 = .ok (.invokestatic 473, 3) := by decide +kernel
theorem dX9_instead_16 : decode cX9_instead 16 = .ok (.ifCond .ne 6, 3) := by decide +kernel
theorem dX9_instead_19 : decode cX9_instead 19 = .ok (.bipush (-2), 2) := by decide +kernel
theorem dX9_instead_21 : decode cX9_instead 21 = .ok (.ireturn, 1) := by decide +kernel
theorem dX9_instead_22 : decode cX9_instead 22 = .ok (.iconst (-1), 1) := by decide +kernel
theorem dX9_instead_23 : decode cX9_instead 23 = .ok (.istore_n 2, 1) := by decide +kernel
theorem dX9_instead_24 : decode cX9_instead 24 = .ok (.iconst (-1), 1) := by decide +kernel
theorem dX9_instead_25 : decode cX9_instead 25 = .ok (.istore_n 3, 1) := by decide +kernel
theorem dX9_instead_26 : decode cX9_instead 26 = .ok (.iconst 0, 1) := by decide +kernel
theorem dX9_instead_27 : decode cX9_instead 27 = .ok (.istore 4, 2) := by decide +kernel
theorem dX9_instead_29 : decode cX9_instead 29 = .ok (.iload 4, 2) := by decide +kernel
theorem dX9_instead_31 : decode cX9_instead 31 = .ok (.aload_n 0, 1) := by decide +kernel
theorem dX9_instead_32 : decode cX9_instead 32 = .ok (.getfield 34, 3) := by decide +kernel
theorem dX9_instead_35 : decode cX9_instead 35 = .ok (.iconst 3, 1) := by decide +kernel
theorem dX9_instead_36 : decode cX9_instead 36 = .ok (.iaload, 1) := by decide +kernel
theorem dX9_instead_37 : decode cX9_instead 37 = .ok (.if_icmp .ge 39, 3) := by decide +kernel
theorem dX9_instead_40 : decode cX9_instead 40 = .ok (.aload_n 0, 1) := by decide +kernel
theorem dX9_instead_41 : decode cX9_instead 41 = .ok (.iload 4, 2) := by decide +kernel
theorem dX9_instead_43 : decode cX9_instead 43 = .ok (.iload_n 1, 1) := by decide +kernel
theorem dX9_instead_44 : decode cX9_instead 44 = .ok (.invokevirtual 482, 3) := by decide +kernel
theorem dX9_instead_47 : decode cX9_instead 47 = .ok (.iconst (-1), 1) := by decide +kernel
theorem dX9_instead_48 : decode cX9_instead 48 = .ok (.if_icmp .eq 22, 3) := by decide +kernel
theorem dX9_instead_51 : decode cX9_instead 51 = .ok (.aload_n 0, 1) := by decide +kernel
theorem dX9_instead_52 : decode cX9_instead 52 = .ok (.getfield 479, 3) := by decide +kernel
theorem dX9_instead_55 : decode cX9_instead 55 = .ok (.iload_n 3, 1) := by decide +kernel
theorem dX9_instead_56 : decode cX9_instead 56 = .ok (.if_icmp .gt 6, 3) := by decide +kernel
theorem dX9_instead_59 : decode cX9_instead 59 = .ok (.goto 11, 3) := by decide +kernel
theorem dX9_instead_62 : decode cX9_instead 62 = .ok (.iload 4, 2) := by decide +kernel
theorem dX9_instead_64 : decode cX9_instead 64 = .ok (.istore_n 2, 1) := by decide +kernel
theorem dX9_instead_65 : decode cX9_instead 65 = .ok (.aload_n 0, 1) := by decide +kernel
theorem dX9_instead_66 : decode cX9_instead 66 = .ok (.getfield 479, 3) := by decide +kernel
theorem dX9_instead_69 : decode cX9_instead 69 = .ok (.istore_n 3, 1) := by decide +kernel
theorem dX9_instead_70 : decode cX9_instead 70 = .ok (.iinc 4 1, 3) := by decide +kernel
theorem dX9_instead_73 : decode cX9_instead 73 = .ok (.goto (-44), 3) := by decide +kernel
theorem dX9_instead_76 : decode cX9_instead 76 = .ok (.iload_n 2, 1) := by decide +kernel
theorem dX9_instead_77 : decode cX9_instead 77 = .ok (.ireturn, 1) := by decide +kernel
theorem dX9_burn_0 : decode cX9_burn 0 = .ok (.aload_n 0, 1) := by decide +kernel
theorem dX9_burn_1 : decode cX9_burn 1 = .ok (.iconst 0, 1) := by decide +kernel
theorem dX9_burn_2 : decode cX9_burn 2 = .ok (.putfield 95, 3) := by decide +kernel
theorem dX9_burn_5 : decode cX9_burn 5 = .ok (.aload_n 0, 1) := by decide +kernel
theorem dX9_burn_6 : decode cX9_burn 6 = .ok (.iload_n 1, 1) := by decide +kernel
theorem dX9_burn_7 : decode cX9_burn 7 = .ok (.invokevirtual 288, 3) := by decide +kernel
theorem dX9_burn_10 : decode cX9_burn 10 = .ok (.ifCond .eq 11, 3) := by decide +kernel
theorem dX9_burn_13 : decode cX9_burn 13 = .ok (.aload_n 0, 1) := by decide +kernel
theorem dX9_burn_14 : decode cX9_burn 14 = .ok (.iload_n 2, 1) := by decide +kernel
theorem dX9_burn_15 : decode cX9_burn 15 = .ok (.invokevirtual 407, 3) := by decide +kernel
theorem dX9_burn_18 : decode cX9_burn 18 = .ok (.ifCond .ne 6, 3) := by decide +kernel
theorem dX9_burn_21 : decode cX9_burn 21 = .ok (.bipush (-2), 2) := by decide +kernel
theorem dX9_burn_23 : decode cX9_burn 23 = .ok (.ireturn, 1) := by decide +kernel
theorem dX9_burn_24 : decode cX9_burn 24 = .ok (.aload_n 0, 1) := by decide +kernel
theorem dX9_burn_25 : decode cX9_burn 25 = .ok (.invokevirtual 393, 3) := by decide +kernel
theorem dX9_burn_28 : decode cX9_burn 28 = .ok (.aload_n 0, 1) := by decide +kernel
theorem dX9_burn_29 : decode cX9_burn 29 = .ok (.iload_n 1, 1) := by decide +kernel
theorem dX9_burn_30 : decode cX9_burn 30 = .ok (.putfield 310, 3) := by decide +kernel
theorem dX9_burn_33 : decode cX9_burn 33 = .ok (.aload_n 0, 1) := by decide +kernel
theorem dX9_burn_34 : decode cX9_burn 34 = .ok (.iload_n 2, 1) := by decide +kernel
theorem dX9_burn_35 : decode cX9_burn 35 = .ok (.putfield 350, 3) := by decide +kernel
theorem dX9_burn_38 : decode cX9_burn 38 = .ok (.aload_n 0, 1) := by decide +kernel
theorem dX9_burn_39 : decode cX9_burn 39 = .ok (.invokevirtual 396, 3) := by decide +kernel
theorem dX9_burn_42 : decode cX9_burn 42 = .ok (.aload_n 0, 1) := by decide +kernel
theorem dX9_burn_43 : decode cX9_burn 43 = .ok (.invokevirtual 428, 3) := by decide +kernel
theorem dX9_burn_46 : decode cX9_burn 46 = .ok (.ireturn, 1) := by decide +kernel
theorem dX9_sizeOf_0 : decode cX9_sizeOf 0 = .ok (.iconst 0, 1) := by decide +kernel
theorem dX9_sizeOf_1 : decode cX9_sizeOf 1 = .ok (.istore_n 1, 1) := by decide +kernel
theorem dX9_sizeOf_2 : decode cX9_sizeOf 2 = .ok (.iload_n 0, 1) := by decide +kernel
theorem dX9_sizeOf_3 : decode cX9_sizeOf 3 = .ok (.istore_n 2, 1) := by decide +kernel
theorem dX9_sizeOf_4 : decode cX9_sizeOf 4 = .ok (.iload_n 2, 1) := by decide +kernel
theorem dX9_sizeOf_5 : decode cX9_sizeOf 5 = .ok (.ifCond .eq 15, 3) := by decide +kernel
theorem dX9_sizeOf_8 : decode cX9_sizeOf 8 = .ok (.iinc 1 1, 3) := by decide +kernel
theorem dX9_sizeOf_11 : decode cX9_sizeOf 11 = .ok (.iload_n 2, 1) := by decide +kernel
theorem dX9_sizeOf_12 : decode cX9_sizeOf 12 = .ok (.iload_n 2, 1) := by decide +kernel
theorem dX9_sizeOf_13 : decode cX9_sizeOf 13 = .ok (.iconst 1, 1) := by decide +kernel
theorem dX9_sizeOf_14 : decode cX9_sizeOf 14 = .ok (.isub, 1) := by decide +kernel
theorem dX9_sizeOf_15 : decode cX9_sizeOf 15 = .ok (.iand, 1) := by decide +kernel
theorem dX9_sizeOf_16 : decode cX9_sizeOf 16 = .ok (.istore_n 2, 1) := by decide +kernel
theorem dX9_sizeOf_17 : decode cX9_sizeOf 17 = .ok (.goto (-13), 3) := by decide +kernel
theorem dX9_sizeOf_20 : decode cX9_sizeOf 20 = .ok (.iload_n 1, 1) := by decide +kernel
theorem dX9_sizeOf_21 : decode cX9_sizeOf 21 = .ok (.ireturn, 1) := by decide +kernel
theorem dX9_untie_0 : decode cX9_untie 0 = .ok (.aload_n 0, 1) := by decide +kernel
theorem dX9_untie_1 : decode cX9_untie 1 = .ok (.iconst 0, 1) := by decide +kernel
theorem dX9_untie_2 : decode cX9_untie 2 = .ok (.putfield 95, 3) := by decide +kernel
theorem dX9_untie_5 : decode cX9_untie 5 = .ok (.aload_n 0, 1) := by decide +kernel
theorem dX9_untie_6 : decode cX9_untie 6 = .ok (.invokevirtual 295, 3) := by decide +kernel
theorem dX9_untie_9 : decode cX9_untie 9 = .ok (.ifCond .eq 13, 3) := by decide +kernel
theorem dX9_untie_12 : decode cX9_untie 12 = .ok (.iload_n 1, 1) := by decide +kernel
theorem dX9_untie_13 : decode cX9_untie 13 = .ok (.i2l, 1) := by decide +kernel
theorem dX9_untie_14 : decode cX9_untie 14 = .ok (.lconst 0, 1) := by decide +kernel
theorem dX9_untie_15 : decode cX9_untie 15 = .ok (.lconst 1, 1) := by decide +kernel
theorem dX9_untie_16 : decode cX9_untie 16 = .ok (.invokestatic 100, 3) := by decide +kernel
theorem dX9_untie_19 : decode cX9_untie 19 = .ok (.ifCond .ne 6, 3) := by decide +kernel
theorem dX9_untie_22 : decode cX9_untie 22 = .ok (.bipush (-2), 2) := by decide +kernel
theorem dX9_untie_24 : decode cX9_untie 24 = .ok (.ireturn, 1) := by decide +kernel
theorem dX9_untie_25 : decode cX9_untie 25 = .ok (.aload_n 0, 1) := by decide +kernel
theorem dX9_untie_26 : decode cX9_untie 26 = .ok (.invokevirtual 404, 3) := by decide +kernel
theorem dX9_untie_29 : decode cX9_untie 29 = .ok (.iconst 0, 1) := by decide +kernel
theorem dX9_untie_30 : decode cX9_untie 30 = .ok (.istore_n 2, 1) := by decide +kernel
theorem dX9_untie_31 : decode cX9_untie 31 = .ok (.iconst 0, 1) := by decide +kernel
theorem dX9_untie_32 : decode cX9_untie 32 = .ok (.istore_n 3, 1) := by decide +kernel
theorem dX9_untie_33 : decode cX9_untie 33 = .ok (.iload_n 3, 1) := by decide +kernel
theorem dX9_untie_34 : decode cX9_untie 34 = .ok (.aload_n 0, 1) := by decide +kernel
theorem dX9_untie_35 : decode cX9_untie 35 = .ok (.getfield 34, 3) := by decide +kernel
theorem dX9_untie_38 : decode cX9_untie 38 = .ok (.iconst 3, 1) := by decide +kernel
theorem dX9_untie_39 : decode cX9_untie 39 = .ok (.iaload, 1) := by decide +kernel
theorem dX9_untie_40 : decode cX9_untie 40 = .ok (.if_icmp .ge 32, 3) := by decide +kernel
theorem dX9_untie_43 : decode cX9_untie 43 = .ok (.aload_n 0, 1) := by decide +kernel
theorem dX9_untie_44 : decode cX9_untie 44 = .ok (.getfield 53, 3) := by decide +kernel
theorem dX9_untie_47 : decode cX9_untie 47 = .ok (.iload_n 3, 1) := by decide +kernel
theorem dX9_untie_48 : decode cX9_untie 48 = .ok (.iaload, 1) := by decide +kernel
theorem dX9_untie_49 : decode cX9_untie 49 = .ok (.iconst (-1), 1) := by decide +kernel
theorem dX9_untie_50 : decode cX9_untie 50 = .ok (.if_icmp .eq 6, 3) := by decide +kernel
theorem dX9_untie_53 : decode cX9_untie 53 = .ok (.goto 13, 3) := by decide +kernel
theorem dX9_untie_56 : decode cX9_untie 56 = .ok (.aload_n 0, 1) := by decide +kernel
theorem dX9_untie_57 : decode cX9_untie 57 = .ok (.getfield 92, 3) := by decide +kernel
theorem dX9_untie_60 : decode cX9_untie 60 = .ok (.iload_n 2, 1) := by decide +kernel
theorem dX9_untie_61 : decode cX9_untie 61 = .ok (.iload_n 3, 1) := by decide +kernel
theorem dX9_untie_62 : decode cX9_untie 62 = .ok (.iastore, 1) := by decide +kernel
theorem dX9_untie_63 : decode cX9_untie 63 = .ok (.iinc 2 1, 3) := by decide +kernel
theorem dX9_untie_66 : decode cX9_untie 66 = .ok (.iinc 3 1, 3) := by decide +kernel
theorem dX9_untie_69 : decode cX9_untie 69 = .ok (.goto (-36), 3) := by decide +kernel
theorem dX9_untie_72 : decode cX9_untie 72 = .ok (.iload_n 2, 1) := by decide +kernel
theorem dX9_untie_73 : decode cX9_untie 73 = .ok (.bipush 12, 2) := by decide +kernel
theorem dX9_untie_75 : decode cX9_untie 75 = .ok (.if_icmp .le 6, 3) := by decide +kernel
theorem dX9_untie_78 : decode cX9_untie 78 = .ok (.bipush (-3), 2) := by decide +kernel
theorem dX9_untie_80 : decode cX9_untie 80 = .ok (.ireturn, 1) := by decide +kernel
theorem dX9_untie_81 : decode cX9_untie 81 = .ok (.iconst (-1), 1) := by decide +kernel
theorem dX9_untie_82 : decode cX9_untie 82 = .ok (.istore_n 3, 1) := by decide +kernel
theorem dX9_untie_83 : decode cX9_untie 83 = .ok (.iconst 0, 1) := by decide +kernel
theorem dX9_untie_84 : decode cX9_untie 84 = .ok (.istore 4, 2) := by decide +kernel
theorem dX9_untie_86 : decode cX9_untie 86 = .ok (.iload 4, 2) := by decide +kernel
theorem dX9_untie_88 : decode cX9_untie 88 = .ok (.iconst 1, 1) := by decide +kernel
theorem dX9_untie_89 : decode cX9_untie 89 = .ok (.iload_n 2, 1) := by decide +kernel
theorem dX9_untie_90 : decode cX9_untie 90 = .ok (.ishl, 1) := by decide +kernel
theorem dX9_untie_91 : decode cX9_untie 91 = .ok (.if_icmp .ge 104, 3) := by decide +kernel
theorem dX9_untie_94 : decode cX9_untie 94 = .ok (.iconst 0, 1) := by decide +kernel
theorem dX9_untie_95 : decode cX9_untie 95 = .ok (.istore 5, 2) := by decide +kernel
theorem dX9_untie_97 : decode cX9_untie 97 = .ok (.iconst 0, 1) := by decide +kernel
theorem dX9_untie_98 : decode cX9_untie 98 = .ok (.istore 6, 2) := by decide +kernel
theorem dX9_untie_100 : decode cX9_untie 100 = .ok (.iload 6, 2) := by decide +kernel
theorem dX9_untie_102 : decode cX9_untie 102 = .ok (.iload_n 2, 1) := by decide +kernel
theorem dX9_untie_103 : decode cX9_untie 103 = .ok (.if_icmp .ge 38, 3) := by decide +kernel
theorem dX9_untie_106 : decode cX9_untie 106 = .ok (.iload 5, 2) := by decide +kernel
theorem dX9_untie_108 : decode cX9_untie 108 = .ok (.iload 4, 2) := by decide +kernel
theorem dX9_untie_110 : decode cX9_untie 110 = .ok (.iload 6, 2) := by decide +kernel
theorem dX9_untie_112 : decode cX9_untie 112 = .ok (.ishr, 1) := by decide +kernel
theorem dX9_untie_113 : decode cX9_untie 113 = .ok (.iconst 1, 1) := by decide +kernel
theorem dX9_untie_114 : decode cX9_untie 114 = .ok (.iand, 1) := by decide +kernel
theorem dX9_untie_115 : decode cX9_untie 115 = .ok (.iconst 1, 1) := by decide +kernel
theorem dX9_untie_116 : decode cX9_untie 116 = .ok (.if_icmp .ne 15, 3) := by decide +kernel
theorem dX9_untie_119 : decode cX9_untie 119 = .ok (.iconst 1, 1) := by decide +kernel
theorem dX9_untie_120 : decode cX9_untie 120 = .ok (.aload_n 0, 1) := by decide +kernel
theorem dX9_untie_121 : decode cX9_untie 121 = .ok (.getfield 92, 3) := by decide +kernel
theorem dX9_untie_124 : decode cX9_untie 124 = .ok (.iload 6, 2) := by decide +kernel
theorem dX9_untie_126 : decode cX9_untie 126 = .ok (.iaload, 1) := by decide +kernel
theorem dX9_untie_127 : decode cX9_untie 127 = .ok (.ishl, 1) := by decide +kernel
theorem dX9_untie_128 : decode cX9_untie 128 = .ok (.goto 4, 3) := by decide +kernel
theorem dX9_untie_131 : decode cX9_untie 131 = .ok (.iconst 0, 1) := by decide +kernel
theorem dX9_untie_132 : decode cX9_untie 132 = .ok (.ior, 1) := by decide +kernel
theorem dX9_untie_133 : decode cX9_untie 133 = .ok (.istore 5, 2) := by decide +kernel
theorem dX9_untie_135 : decode cX9_untie 135 = .ok (.iinc 6 1, 3) := by decide +kernel
theorem dX9_untie_138 : decode cX9_untie 138 = .ok (.goto (-38), 3) := by decide +kernel
theorem dX9_untie_141 : decode cX9_untie 141 = .ok (.iload_n 3, 1) := by decide +kernel
theorem dX9_untie_142 : decode cX9_untie 142 = .ok (.iconst (-1), 1) := by decide +kernel
theorem dX9_untie_143 : decode cX9_untie 143 = .ok (.if_icmp .eq 18, 3) := by decide +kernel
theorem dX9_untie_146 : decode cX9_untie 146 = .ok (.iload 5, 2) := by decide +kernel
theorem dX9_untie_148 : decode cX9_untie 148 = .ok (.invokestatic 485, 3) := by decide +kernel
theorem dX9_untie_151 : decode cX9_untie 151 = .ok (.iload_n 3, 1) := by decide +kernel
theorem dX9_untie_152 : decode cX9_untie 152 = .ok (.invokestatic 485, 3) := by decide +kernel
theorem dX9_untie_155 : decode cX9_untie 155 = .ok (.if_icmp .lt 6, 3) := by decide +kernel
theorem dX9_untie_158 : decode cX9_untie 158 = .ok (.goto 31, 3) := by decide +kernel
theorem dX9_untie_161 : decode cX9_untie 161 = .ok (.aload_n 0, 1) := by decide +kernel
theorem dX9_untie_162 : decode cX9_untie 162 = .ok (.invokevirtual 393, 3) := by decide +kernel
theorem dX9_untie_165 : decode cX9_untie 165 = .ok (.aload_n 0, 1) := by decide +kernel
theorem dX9_untie_166 : decode cX9_untie 166 = .ok (.iload 5, 2) := by decide +kernel
theorem dX9_untie_168 : decode cX9_untie 168 = .ok (.putfield 304, 3) := by decide +kernel
theorem dX9_untie_171 : decode cX9_untie 171 = .ok (.aload_n 0, 1) := by decide +kernel
theorem dX9_untie_172 : decode cX9_untie 172 = .ok (.invokevirtual 396, 3) := by decide +kernel
theorem dX9_untie_175 : decode cX9_untie 175 = .ok (.aload_n 0, 1) := by decide +kernel
theorem dX9_untie_176 : decode cX9_untie 176 = .ok (.invokevirtual 418, 3) := by decide +kernel
theorem dX9_untie_179 : decode cX9_untie 179 = .ok (.ifCond .ne 8, 3) := by decide +kernel
theorem dX9_untie_182 : decode cX9_untie 182 = .ok (.iload 5, 2) := by decide +kernel
theorem dX9_untie_184 : decode cX9_untie 184 = .ok (.goto 4, 3) := by decide +kernel
theorem dX9_untie_187 : decode cX9_untie 187 = .ok (.iload_n 3, 1) := by decide +kernel
theorem dX9_untie_188 : decode cX9_untie 188 = .ok (.istore_n 3, 1) := by decide +kernel
theorem dX9_untie_189 : decode cX9_untie 189 = .ok (.iinc 4 1, 3) := by decide +kernel
theorem dX9_untie_192 : decode cX9_untie 192 = .ok (.goto (-106), 3) := by decide +kernel
theorem dX9_untie_195 : decode cX9_untie 195 = .ok (.iload_n 3, 1) := by decide +kernel
theorem dX9_untie_196 : decode cX9_untie 196 = .ok (.iconst (-1), 1) := by decide +kernel
theorem dX9_untie_197 : decode cX9_untie 197 = .ok (.if_icmp .eq 8, 3) := by decide +kernel
theorem dX9_untie_200 : decode cX9_untie 200 = .ok (.iload_n 1, 1) := by decide +kernel
theorem dX9_untie_201 : decode cX9_untie 201 = .ok (.iconst 1, 1) := by decide +kernel
theorem dX9_untie_202 : decode cX9_untie 202 = .ok (.if_icmp .ne 7, 3) := by decide +kernel
theorem dX9_untie_205 : decode cX9_untie 205 = .ok (.iload_n 3, 1) := by decide +kernel
theorem dX9_untie_206 : decode cX9_untie 206 = .ok (.goto 7, 3) := by decide +kernel
theorem dX9_untie_209 : decode cX9_untie 209 = .ok (.iload_n 3, 1) := by decide +kernel
theorem dX9_untie_210 : decode cX9_untie 210 = .ok (.invokestatic 485, 3) := by decide +kernel
theorem dX9_untie_213 : decode cX9_untie 213 = .ok (.ireturn, 1) := by decide +kernel
theorem dX9_chance_0 : decode cX9_chance 0 = .ok (.aload_n 0, 1) := by decide +kernel
theorem dX9_chance_1 : decode cX9_chance 1 = .ok (.iconst 0, 1) := by decide +kernel
theorem dX9_chance_2 : decode cX9_chance 2 = .ok (.putfield 95, 3) := by decide +kernel
theorem dX9_chance_5 : decode cX9_chance 5 = .ok (.aload_n 0, 1) := by decide +kernel
theorem dX9_chance_6 : decode cX9_chance 6 = .ok (.iload_n 1, 1) := by decide +kernel
theorem dX9_chance_7 : decode cX9_chance 7 = .ok (.invokevirtual 270, 3) := by decide +kernel
theorem dX9_chance_10 : decode cX9_chance 10 = .ok (.ifCond .eq 33, 3) := by decide +kernel
theorem dX9_chance_13 : decode cX9_chance 13 = .ok (.iload_n 2, 1) := by decide +kernel
theorem dX9_chance_14 : decode cX9_chance 14 = .ok (.invokestatic 439, 3) := by decide +kernel
theorem dX9_chance_17 : decode cX9_chance 17 = .ok (.ifCond .eq 26, 3) := by decide +kernel
theorem dX9_chance_20 : decode cX9_chance 20 = .ok (.iload_n 3, 1) := by decide +kernel
theorem dX9_chance_21 : decode cX9_chance 21 = .ok (.i2l, 1) := by decide +kernel
theorem dX9_chance_22 : decode cX9_chance 22 = .ok (.lconst 1, 1) := by decide +kernel
theorem dX9_chance_23 : decode cX9_chance 23 = .ok (.ldc2_w 488, 3) := by decide +kernel
theorem dX9_chance_26 : decode cX9_chance 26 = .ok (.invokestatic 100, 3) := by decide +kernel
theorem dX9_chance_29 : decode cX9_chance 29 = .ok (.ifCond .eq 14, 3) := by decide +kernel
theorem dX9_chance_32 : decode cX9_chance 32 = .ok (.iload 4, 2) := by decide +kernel
theorem dX9_chance_34 : decode cX9_chance 34 = .ok (.i2l, 1) := by decide +kernel
theorem dX9_chance_35 : decode cX9_chance 35 = .ok (.lconst 0, 1) := by decide +kernel
theorem dX9_chance_36 : decode cX9_chance 36 = .ok (.lconst 1, 1) := by decide +kernel
theorem dX9_chance_37 : decode cX9_chance 37 = .ok (.invokestatic 100, 3) := by decide +kernel
theorem dX9_chance_40 : decode cX9_chance 40 = .ok (.ifCond .ne 6, 3) := by decide +kernel
theorem dX9_chance_43 : decode cX9_chance 43 = .ok (.bipush (-2), 2) := by decide +kernel
theorem dX9_chance_45 : decode cX9_chance 45 = .ok (.ireturn, 1) := by decide +kernel
theorem dX9_chance_46 : decode cX9_chance 46 = .ok (.iconst 0, 1) := by decide +kernel
theorem dX9_chance_47 : decode cX9_chance 47 = .ok (.istore 5, 2) := by decide +kernel
theorem dX9_chance_49 : decode cX9_chance 49 = .ok (.iconst 0, 1) := by decide +kernel
theorem dX9_chance_50 : decode cX9_chance 50 = .ok (.istore 6, 2) := by decide +kernel
theorem dX9_chance_52 : decode cX9_chance 52 = .ok (.iload 6, 2) := by decide +kernel
theorem dX9_chance_54 : decode cX9_chance 54 = .ok (.iload_n 3, 1) := by decide +kernel
theorem dX9_chance_55 : decode cX9_chance 55 = .ok (.if_icmp .ge 71, 3) := by decide +kernel
theorem dX9_chance_58 : decode cX9_chance 58 = .ok (.aload_n 0, 1) := by decide +kernel
theorem dX9_chance_59 : decode cX9_chance 59 = .ok (.iconst 3, 1) := by decide +kernel
theorem dX9_chance_60 : decode cX9_chance 60 = .ok (.iload_n 2, 1) := by decide +kernel
theorem dX9_chance_61 : decode cX9_chance 61 = .ok (.i2l, 1) := by decide +kernel
theorem dX9_chance_62 : decode cX9_chance 62 = .ok (.iload 6, 2) := by decide +kernel
theorem dX9_chance_64 : decode cX9_chance 64 = .ok (.i2l, 1) := by decide +kernel
theorem dX9_chance_65 : decode cX9_chance 65 = .ok (.ladd, 1) := by decide +kernel
theorem dX9_chance_66 : decode cX9_chance 66 = .ok (.invokevirtual 442, 3) := by decide +kernel
theorem dX9_chance_69 : decode cX9_chance 69 = .ok (.iload 5, 2) := by decide +kernel
theorem dX9_chance_71 : decode cX9_chance 71 = .ok (.iload 4, 2) := by decide +kernel
theorem dX9_chance_73 : decode cX9_chance 73 = .ok (.ifCond .ne 19, 3) := by decide +kernel
theorem dX9_chance_76 : decode cX9_chance 76 = .ok (.aload_n 0, 1) := by decide +kernel
theorem dX9_chance_77 : decode cX9_chance 77 = .ok (.iload_n 1, 1) := by decide +kernel
theorem dX9_chance_78 : decode cX9_chance 78 = .ok (.invokevirtual 425, 3) := by decide +kernel
theorem dX9_chance_81 : decode cX9_chance 81 = .ok (.ifCond .eq 7, 3) := by decide +kernel
theorem dX9_chance_84 : decode cX9_chance 84 = .ok (.iconst 1, 1) := by decide +kernel
theorem dX9_chance_85 : decode cX9_chance 85 = .ok (.goto 32, 3) := by decide +kernel
theorem dX9_chance_88 : decode cX9_chance 88 = .ok (.iconst 0, 1) := by decide +kernel
theorem dX9_chance_89 : decode cX9_chance 89 = .ok (.goto 28, 3) := by decide +kernel
theorem dX9_chance_92 : decode cX9_chance 92 = .ok (.aload_n 0, 1) := by decide +kernel
theorem dX9_chance_93 : decode cX9_chance 93 = .ok (.getfield 53, 3) := by decide +kernel
theorem dX9_chance_96 : decode cX9_chance 96 = .ok (.iload_n 1, 1) := by decide +kernel
theorem dX9_chance_97 : decode cX9_chance 97 = .ok (.iaload, 1) := by decide +kernel
theorem dX9_chance_98 : decode cX9_chance 98 = .ok (.iconst (-1), 1) := by decide +kernel
theorem dX9_chance_99 : decode cX9_chance 99 = .ok (.if_icmp .ne 12, 3) := by decide +kernel
theorem dX9_chance_102 : decode cX9_chance 102 = .ok (.aload_n 0, 1) := by decide +kernel
theorem dX9_chance_103 : decode cX9_chance 103 = .ok (.getfield 34, 3) := by decide +kernel
theorem dX9_chance_106 : decode cX9_chance 106 = .ok (.iconst 0, 1) := by decide +kernel
theorem dX9_chance_107 : decode cX9_chance 107 = .ok (.iaload, 1) := by decide +kernel
theorem dX9_chance_108 : decode cX9_chance 108 = .ok (.goto 9, 3) := by decide +kernel
theorem dX9_chance_111 : decode cX9_chance 111 = .ok (.aload_n 0, 1) := by decide +kernel
theorem dX9_chance_112 : decode cX9_chance 112 = .ok (.getfield 53, 3) := by decide +kernel
theorem dX9_chance_115 : decode cX9_chance 115 = .ok (.iload_n 1, 1) := by decide +kernel
theorem dX9_chance_116 : decode cX9_chance 116 = .ok (.iaload, 1) := by decide +kernel
theorem dX9_chance_117 : decode cX9_chance 117 = .ok (.iadd, 1) := by decide +kernel
theorem dX9_chance_118 : decode cX9_chance 118 = .ok (.istore 5, 2) := by decide +kernel
theorem dX9_chance_120 : decode cX9_chance 120 = .ok (.iinc 6 1, 3) := by decide +kernel
theorem dX9_chance_123 : decode cX9_chance 123 = .ok (.goto (-71), 3) := by decide +kernel
theorem dX9_chance_126 : decode cX9_chance 126 = .ok (.iload 5, 2) := by decide +kernel
theorem dX9_chance_128 : decode cX9_chance 128 = .ok (.ireturn, 1) := by decide +kernel
theorem dX9_judge_0 : decode cX9_judge 0 = .ok (.aload_n 0, 1) := by decide +kernel
theorem dX9_judge_1 : decode cX9_judge 1 = .ok (.iconst 0, 1) := by decide +kernel
theorem dX9_judge_2 : decode cX9_judge 2 = .ok (.putfield 95, 3) := by decide +kernel
theorem dX9_judge_5 : decode cX9_judge 5 = .ok (.iload_n 1, 1) := by decide +kernel
theorem dX9_judge_6 : decode cX9_judge 6 = .ok (.invokestatic 104, 3) := by decide +kernel
theorem dX9_judge_9 : decode cX9_judge 9 = .ok (.ifCond .eq 10, 3) := by decide +kernel
theorem dX9_judge_12 : decode cX9_judge 12 = .ok (.aload_n 0, 1) := by decide +kernel
theorem dX9_judge_13 : decode cX9_judge 13 = .ok (.invokevirtual 295, 3) := by decide +kernel
theorem dX9_judge_16 : decode cX9_judge 16 = .ok (.ifCond .ne 6, 3) := by decide +kernel
theorem dX9_judge_19 : decode cX9_judge 19 = .ok (.bipush (-2), 2) := by decide +kernel
theorem dX9_judge_21 : decode cX9_judge 21 = .ok (.ireturn, 1) := by decide +kernel
theorem dX9_judge_22 : decode cX9_judge 22 = .ok (.aload_n 0, 1) := by decide +kernel
theorem dX9_judge_23 : decode cX9_judge 23 = .ok (.getfield 7, 3) := by decide +kernel
theorem dX9_judge_26 : decode cX9_judge 26 = .ok (.iload_n 1, 1) := by decide +kernel
theorem dX9_judge_27 : decode cX9_judge 27 = .ok (.iaload, 1) := by decide +kernel
theorem dX9_judge_28 : decode cX9_judge 28 = .ok (.iconst (-1), 1) := by decide +kernel
theorem dX9_judge_29 : decode cX9_judge 29 = .ok (.if_icmp .ne 6, 3) := by decide +kernel
theorem dX9_judge_32 : decode cX9_judge 32 = .ok (.bipush (-6), 2) := by decide +kernel
theorem dX9_judge_34 : decode cX9_judge 34 = .ok (.ireturn, 1) := by decide +kernel
theorem dX9_judge_35 : decode cX9_judge 35 = .ok (.aload_n 0, 1) := by decide +kernel
theorem dX9_judge_36 : decode cX9_judge 36 = .ok (.invokevirtual 404, 3) := by decide +kernel
theorem dX9_judge_39 : decode cX9_judge 39 = .ok (.iconst 0, 1) := by decide +kernel
theorem dX9_judge_40 : decode cX9_judge 40 = .ok (.istore_n 2, 1) := by decide +kernel
theorem dX9_judge_41 : decode cX9_judge 41 = .ok (.iconst 0, 1) := by decide +kernel
theorem dX9_judge_42 : decode cX9_judge 42 = .ok (.istore_n 3, 1) := by decide +kernel
theorem dX9_judge_43 : decode cX9_judge 43 = .ok (.iload_n 3, 1) := by decide +kernel
theorem dX9_judge_44 : decode cX9_judge 44 = .ok (.aload_n 0, 1) := by decide +kernel
theorem dX9_judge_45 : decode cX9_judge 45 = .ok (.getfield 13, 3) := by decide +kernel
theorem dX9_judge_48 : decode cX9_judge 48 = .ok (.iload_n 1, 1) := by decide +kernel
theorem dX9_judge_49 : decode cX9_judge 49 = .ok (.iaload, 1) := by decide +kernel
theorem dX9_judge_50 : decode cX9_judge 50 = .ok (.if_icmp .ge 69, 3) := by decide +kernel
theorem dX9_judge_53 : decode cX9_judge 53 = .ok (.iload_n 2, 1) := by decide +kernel
theorem dX9_judge_54 : decode cX9_judge 54 = .ok (.aload_n 0, 1) := by decide +kernel
theorem dX9_judge_55 : decode cX9_judge 55 = .ok (.getfield 347, 3) := by decide +kernel
theorem dX9_judge_58 : decode cX9_judge 58 = .ok (.if_icmp .ge 20, 3) := by decide +kernel
theorem dX9_judge_61 : decode cX9_judge 61 = .ok (.aload_n 0, 1) := by decide +kernel
theorem dX9_judge_62 : decode cX9_judge 62 = .ok (.getfield 74, 3) := by decide +kernel
theorem dX9_judge_65 : decode cX9_judge 65 = .ok (.iload_n 2, 1) := by decide +kernel
theorem dX9_judge_66 : decode cX9_judge 66 = .ok (.iaload, 1) := by decide +kernel
theorem dX9_judge_67 : decode cX9_judge 67 = .ok (.bipush 24, 2) := by decide +kernel
theorem dX9_judge_69 : decode cX9_judge 69 = .ok (.if_icmp .lt 9, 3) := by decide +kernel
theorem dX9_judge_72 : decode cX9_judge 72 = .ok (.iinc 2 1, 3) := by decide +kernel
theorem dX9_judge_75 : decode cX9_judge 75 = .ok (.goto (-22), 3) := by decide +kernel
theorem dX9_judge_78 : decode cX9_judge 78 = .ok (.iload_n 2, 1) := by decide +kernel
theorem dX9_judge_79 : decode cX9_judge 79 = .ok (.aload_n 0, 1) := by decide +kernel
theorem dX9_judge_80 : decode cX9_judge 80 = .ok (.getfield 347, 3) := by decide +kernel
theorem dX9_judge_83 : decode cX9_judge 83 = .ok (.if_icmp .eq 25, 3) := by decide +kernel
theorem dX9_judge_86 : decode cX9_judge 86 = .ok (.aload_n 0, 1) := by decide +kernel
theorem dX9_judge_87 : decode cX9_judge 87 = .ok (.getfield 16, 3) := by decide +kernel
theorem dX9_judge_90 : decode cX9_judge 90 = .ok (.bipush 60, 2) := by decide +kernel
theorem dX9_judge_92 : decode cX9_judge 92 = .ok (.iload_n 1, 1) := by decide +kernel
theorem dX9_judge_93 : decode cX9_judge 93 = .ok (.imul, 1) := by decide +kernel
theorem dX9_judge_94 : decode cX9_judge 94 = .ok (.iload_n 3, 1) := by decide +kernel
theorem dX9_judge_95 : decode cX9_judge 95 = .ok (.iadd, 1) := by decide +kernel
theorem dX9_judge_96 : decode cX9_judge 96 = .ok (.laload, 1) := by decide +kernel
theorem dX9_judge_97 : decode cX9_judge 97 = .ok (.aload_n 0, 1) := by decide +kernel
theorem dX9_judge_98 : decode cX9_judge 98 = .ok (.getfield 74, 3) := by decide +kernel
theorem dX9_judge_101 : decode cX9_judge 101 = .ok (.iload_n 2, 1) := by decide +kernel
theorem dX9_judge_102 : decode cX9_judge 102 = .ok (.iaload, 1) := by decide +kernel
theorem dX9_judge_103 : decode cX9_judge 103 = .ok (.i2l, 1) := by decide +kernel
theorem dX9_judge_104 : decode cX9_judge 104 = .ok (.lcmp, 1) := by decide +kernel
theorem dX9_judge_105 : decode cX9_judge 105 = .ok (.ifCond .eq 5, 3) := by decide +kernel
theorem dX9_judge_108 : decode cX9_judge 108 = .ok (.iload_n 3, 1) := by decide +kernel
theorem dX9_judge_109 : decode cX9_judge 109 = .ok (.ireturn, 1) := by decide +kernel
theorem dX9_judge_110 : decode cX9_judge 110 = .ok (.iinc 2 1, 3) := by decide +kernel
theorem dX9_judge_113 : decode cX9_judge 113 = .ok (.iinc 3 1, 3) := by decide +kernel
theorem dX9_judge_116 : decode cX9_judge 116 = .ok (.goto (-73), 3) := by decide +kernel
theorem dX9_judge_119 : decode cX9_judge 119 = .ok (.aload_n 0, 1) := by decide +kernel
theorem dX9_judge_120 : decode cX9_judge 120 = .ok (.getfield 13, 3) := by decide +kernel
theorem dX9_judge_123 : decode cX9_judge 123 = .ok (.iload_n 1, 1) := by decide +kernel
theorem dX9_judge_124 : decode cX9_judge 124 = .ok (.iaload, 1) := by decide +kernel
theorem dX9_judge_125 : decode cX9_judge 125 = .ok (.ireturn, 1) := by decide +kernel
theorem dX9_count_0 : decode cX9_count 0 = .ok (.aload_n 0, 1) := by decide +kernel
theorem dX9_count_1 : decode cX9_count 1 = .ok (.iconst 0, 1) := by decide +kernel
theorem dX9_count_2 : decode cX9_count 2 = .ok (.putfield 95, 3) := by decide +kernel
theorem dX9_count_5 : decode cX9_count 5 = .ok (.iconst 0, 1) := by decide +kernel
theorem dX9_count_6 : decode cX9_count 6 = .ok (.istore_n 2, 1) := by decide +kernel
theorem dX9_count_7 : decode cX9_count 7 = .ok (.iload_n 1, 1) := by decide +kernel
theorem dX9_count_8 : decode cX9_count 8 = .ok (.tableswitch 150 0 8 #[52, 59, 66, 73, 80, 87, 94, 99, 117], 52) := by decide +kernel
theorem dX9_count_60 : decode cX9_count 60 = .ok (.aload_n 0, 1) := by decide +kernel
theorem dX9_count_61 : decode cX9_count 61 = .ok (.getfield 34, 3) := by decide +kernel
theorem dX9_count_64 : decode cX9_count 64 = .ok (.iconst 2, 1) := by decide +kernel
theorem dX9_count_65 : decode cX9_count 65 = .ok (.iaload, 1) := by decide +kernel
theorem dX9_count_66 : decode cX9_count 66 = .ok (.ireturn, 1) := by decide +kernel
theorem dX9_count_67 : decode cX9_count 67 = .ok (.aload_n 0, 1) := by decide +kernel
theorem dX9_count_68 : decode cX9_count 68 = .ok (.getfield 34, 3) := by decide +kernel
theorem dX9_count_71 : decode cX9_count 71 = .ok (.iconst 3, 1) := by decide +kernel
theorem dX9_count_72 : decode cX9_count 72 = .ok (.iaload, 1) := by decide +kernel
theorem dX9_count_73 : decode cX9_count 73 = .ok (.ireturn, 1) := by decide +kernel
theorem dX9_count_74 : decode cX9_count 74 = .ok (.aload_n 0, 1) := by decide +kernel
theorem dX9_count_75 : decode cX9_count 75 = .ok (.getfield 34, 3) := by decide +kernel
theorem dX9_count_78 : decode cX9_count 78 = .ok (.iconst 0, 1) := by decide +kernel
theorem dX9_count_79 : decode cX9_count 79 = .ok (.iaload, 1) := by decide +kernel
theorem dX9_count_80 : decode cX9_count 80 = .ok (.ireturn, 1) := by decide +kernel
theorem dX9_count_81 : decode cX9_count 81 = .ok (.aload_n 0, 1) := by decide +kernel
theorem dX9_count_82 : decode cX9_count 82 = .ok (.getfield 34, 3) := by decide +kernel
theorem dX9_count_85 : decode cX9_count 85 = .ok (.iconst 1, 1) := by decide +kernel
theorem dX9_count_86 : decode cX9_count 86 = .ok (.iaload, 1) := by decide +kernel
theorem dX9_count_87 : decode cX9_count 87 = .ok (.ireturn, 1) := by decide +kernel
theorem dX9_count_88 : decode cX9_count 88 = .ok (.aload_n 0, 1) := by decide +kernel
theorem dX9_count_89 : decode cX9_count 89 = .ok (.getfield 34, 3) := by decide +kernel
theorem dX9_count_92 : decode cX9_count 92 = .ok (.iconst 4, 1) := by decide +kernel
theorem dX9_count_93 : decode cX9_count 93 = .ok (.iaload, 1) := by decide +kernel
theorem dX9_count_94 : decode cX9_count 94 = .ok (.ireturn, 1) := by decide +kernel
theorem dX9_count_95 : decode cX9_count 95 = .ok (.aload_n 0, 1) := by decide +kernel
theorem dX9_count_96 : decode cX9_count 96 = .ok (.getfield 31, 3) := by decide +kernel
theorem dX9_count_99 : decode cX9_count 99 = .ok (.iconst 0, 1) := by decide +kernel
theorem dX9_count_100 : decode cX9_count 100 = .ok (.iaload, 1) := by decide +kernel
theorem dX9_count_101 : decode cX9_count 101 = .ok (.ireturn, 1) := by decide +kernel
theorem dX9_count_102 : decode cX9_count 102 = .ok (.aload_n 0, 1) := by decide +kernel
theorem dX9_count_103 : decode cX9_count 103 = .ok (.getfield 112, 3) := by decide +kernel
theorem dX9_count_106 : decode cX9_count 106 = .ok (.ireturn, 1) := by decide +kernel
theorem dX9_count_107 : decode cX9_count 107 = .ok (.aload_n 0, 1) := by decide +kernel
theorem dX9_count_108 : decode cX9_count 108 = .ok (.invokevirtual 295, 3) := by decide +kernel
theorem dX9_count_111 : decode cX9_count 111 = .ok (.ifCond .eq 12, 3) := by decide +kernel
