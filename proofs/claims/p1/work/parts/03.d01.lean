theorem dX8_back_9 : decode cX8_back 9 = .ok (.bipush (-2), 2) := by decide +kernel
theorem dX8_back_11 : decode cX8_back 11 = .ok (.ireturn, 1) := by decide +kernel
theorem dX8_back_12 : decode cX8_back 12 = .ok (.aload_n 0, 1) := by decide +kernel
theorem dX8_back_13 : decode cX8_back 13 = .ok (.getfield 36, 3) := by decide +kernel
theorem dX8_back_16 : decode cX8_back 16 = .ok (.iload_n 1, 1) := by decide +kernel
theorem dX8_back_17 : decode cX8_back 17 = .ok (.baload, 1) := by decide +kernel
theorem dX8_back_18 : decode cX8_back 18 = .ok (.ifCond .ne 6, 3) := by decide +kernel
theorem dX8_back_21 : decode cX8_back 21 = .ok (.bipush (-6), 2) := by decide +kernel
theorem dX8_back_23 : decode cX8_back 23 = .ok (.ireturn, 1) := by decide +kernel
theorem dX8_row_0 : decode cX8_row 0 = .ok (.aload_n 0, 1) := by decide +kernel
theorem dX8_row_1 : decode cX8_row 1 = .ok (.iload_n 1, 1) := by decide +kernel
theorem dX8_row_2 : decode cX8_row 2 = .ok (.invokevirtual 309, 3) := by decide +kernel
theorem dX8_row_5 : decode cX8_row 5 = .ok (.ifCond .eq 18, 3) := by decide +kernel
theorem dX8_row_8 : decode cX8_row 8 = .ok (.iload_n 2, 1) := by decide +kernel
theorem dX8_row_9 : decode cX8_row 9 = .ok (.ifCond .lt 14, 3) := by decide +kernel
theorem dX8_row_12 : decode cX8_row 12 = .ok (.iload_n 2, 1) := by decide +kernel
theorem dX8_row_13 : decode cX8_row 13 = .ok (.iconst 3, 1) := by decide +kernel
theorem dX8_row_14 : decode cX8_row 14 = .ok (.if_icmp .gt 9, 3) := by decide +kernel
theorem dX8_row_17 : decode cX8_row 17 = .ok (.iload_n 3, 1) := by decide +kernel
theorem dX8_row_18 : decode cX8_row 18 = .ok (.bipush 60, 2) := by decide +kernel
theorem dX8_row_20 : decode cX8_row 20 = .ok (.if_icmp .le 6, 3) := by decide +kernel
theorem dX8_row_23 : decode cX8_row 23 = .ok (.bipush (-2), 2) := by decide +kernel
theorem dX8_row_25 : decode cX8_row 25 = .ok (.ireturn, 1) := by decide +kernel
theorem dX8_row_26 : decode cX8_row 26 = .ok (.iload_n 3, 1) := by decide +kernel
theorem dX8_row_27 : decode cX8_row 27 = .ok (.ifCond .ge 6, 3) := by decide +kernel
theorem dX8_row_30 : decode cX8_row 30 = .ok (.bipush (-3), 2) := by decide +kernel
theorem dX8_row_32 : decode cX8_row 32 = .ok (.ireturn, 1) := by decide +kernel
theorem dX8_row_33 : decode cX8_row 33 = .ok (.aload_n 0, 1) := by decide +kernel
theorem dX8_row_34 : decode cX8_row 34 = .ok (.getfield 42, 3) := by decide +kernel
theorem dX8_row_37 : decode cX8_row 37 = .ok (.iload_n 1, 1) := by decide +kernel
theorem dX8_row_38 : decode cX8_row 38 = .ok (.aaload, 1) := by decide +kernel
theorem dX8_row_39 : decode cX8_row 39 = .ok (.iload_n 2, 1) := by decide +kernel
theorem dX8_row_40 : decode cX8_row 40 = .ok (.iload_n 3, 1) := by decide +kernel
theorem dX8_row_41 : decode cX8_row 41 = .ok (.invokevirtual 331, 3) := by decide +kernel
theorem dX8_row_44 : decode cX8_row 44 = .ok (.iconst 0, 1) := by decide +kernel
theorem dX8_row_45 : decode cX8_row 45 = .ok (.ireturn, 1) := by decide +kernel
theorem dX8_write_0 : decode cX8_write 0 = .ok (.aload_n 0, 1) := by decide +kernel
theorem dX8_write_1 : decode cX8_write 1 = .ok (.iload_n 1, 1) := by decide +kernel
theorem dX8_write_2 : decode cX8_write 2 = .ok (.invokevirtual 309, 3) := by decide +kernel
theorem dX8_write_5 : decode cX8_write 5 = .ok (.ifCond .ne 6, 3) := by decide +kernel
theorem dX8_write_8 : decode cX8_write 8 = .ok (.bipush (-2), 2) := by decide +kernel
theorem dX8_write_10 : decode cX8_write 10 = .ok (.ireturn, 1) := by decide +kernel
theorem dX8_write_11 : decode cX8_write 11 = .ok (.aload_n 0, 1) := by decide +kernel
theorem dX8_write_12 : decode cX8_write 12 = .ok (.getfield 42, 3) := by decide +kernel
theorem dX8_write_15 : decode cX8_write 15 = .ok (.iload_n 1, 1) := by decide +kernel
theorem dX8_write_16 : decode cX8_write 16 = .ok (.aaload, 1) := by decide +kernel
theorem dX8_write_17 : decode cX8_write 17 = .ok (.astore 5, 2) := by decide +kernel
theorem dX8_write_19 : decode cX8_write 19 = .ok (.aload 5, 2) := by decide +kernel
theorem dX8_write_21 : decode cX8_write 21 = .ok (.getfield 312, 3) := by decide +kernel
theorem dX8_write_24 : decode cX8_write 24 = .ok (.ifCond .ne 6, 3) := by decide +kernel
theorem dX8_write_27 : decode cX8_write 27 = .ok (.bipush (-6), 2) := by decide +kernel
theorem dX8_write_29 : decode cX8_write 29 = .ok (.ireturn, 1) := by decide +kernel
theorem dX8_paste_0 : decode cX8_paste 0 = .ok (.aload_n 0, 1) := by decide +kernel
theorem dX8_paste_1 : decode cX8_paste 1 = .ok (.iload_n 1, 1) := by decide +kernel
theorem dX8_paste_2 : decode cX8_paste 2 = .ok (.invokevirtual 309, 3) := by decide +kernel
theorem dX8_paste_5 : decode cX8_paste 5 = .ok (.ifCond .eq 11, 3) := by decide +kernel
theorem dX8_paste_8 : decode cX8_paste 8 = .ok (.aload_n 0, 1) := by decide +kernel
theorem dX8_paste_9 : decode cX8_paste 9 = .ok (.iload_n 3, 1) := by decide +kernel
theorem dX8_paste_10 : decode cX8_paste 10 = .ok (.invokevirtual 309, 3) := by decide +kernel
theorem dX8_paste_13 : decode cX8_paste 13 = .ok (.ifCond .ne 6, 3) := by decide +kernel
theorem dX8_paste_16 : decode cX8_paste 16 = .ok (.bipush (-2), 2) := by decide +kernel
theorem dX8_paste_18 : decode cX8_paste 18 = .ok (.ireturn, 1) := by decide +kernel
theorem dX8_paste_19 : decode cX8_paste 19 = .ok (.aload_n 0, 1) := by decide +kernel
theorem dX8_paste_20 : decode cX8_paste 20 = .ok (.getfield 42, 3) := by decide +kernel
theorem dX8_paste_23 : decode cX8_paste 23 = .ok (.iload_n 1, 1) := by decide +kernel
theorem dX8_paste_24 : decode cX8_paste 24 = .ok (.aaload, 1) := by decide +kernel
theorem dX8_paste_25 : decode cX8_paste 25 = .ok (.astore 6, 2) := by decide +kernel
theorem dX8_paste_27 : decode cX8_paste 27 = .ok (.aload_n 0, 1) := by decide +kernel
theorem dX8_paste_28 : decode cX8_paste 28 = .ok (.getfield 42, 3) := by decide +kernel
theorem dX8_paste_31 : decode cX8_paste 31 = .ok (.iload_n 3, 1) := by decide +kernel
theorem dX8_paste_32 : decode cX8_paste 32 = .ok (.aaload, 1) := by decide +kernel
theorem dX8_paste_33 : decode cX8_paste 33 = .ok (.astore 7, 2) := by decide +kernel
theorem dX8_paste_35 : decode cX8_paste 35 = .ok (.aload 6, 2) := by decide +kernel
theorem dX8_paste_37 : decode cX8_paste 37 = .ok (.getfield 312, 3) := by decide +kernel
theorem dX8_paste_40 : decode cX8_paste 40 = .ok (.ifCond .eq 11, 3) := by decide +kernel
theorem dX8_paste_51 : decode cX8_paste 51 = .ok (.bipush (-6), 2) := by decide +kernel
theorem dX8_paste_53 : decode cX8_paste 53 = .ok (.ireturn, 1) := by decide +kernel
theorem dX8_noTown_0 : decode cX8_noTown 0 = .ok (.aload_n 0, 1) := by decide +kernel
theorem dX8_noTown_1 : decode cX8_noTown 1 = .ok (.getfield 28, 3) := by decide +kernel
theorem dX8_noTown_4 : decode cX8_noTown 4 = .ok (.getfield 119, 3) := by decide +kernel
theorem dX8_noTown_7 : decode cX8_noTown 7 = .ok (.ifCond .ne 7, 3) := by decide +kernel
theorem dX8_noTown_10 : decode cX8_noTown 10 = .ok (.iconst 1, 1) := by decide +kernel
theorem dX8_noTown_11 : decode cX8_noTown 11 = .ok (.goto 4, 3) := by decide +kernel
theorem dX8_noTown_15 : decode cX8_noTown 15 = .ok (.ireturn, 1) := by decide +kernel
theorem dX8_isSlot_0 : decode cX8_isSlot 0 = .ok (.iload_n 1, 1) := by decide +kernel
theorem dX8_isSlot_1 : decode cX8_isSlot 1 = .ok (.ifCond .lt 12, 3) := by decide +kernel
theorem dX8_isSlot_4 : decode cX8_isSlot 4 = .ok (.iload_n 1, 1) := by decide +kernel
theorem dX8_isSlot_5 : decode cX8_isSlot 5 = .ok (.iconst 4, 1) := by decide +kernel
theorem dX8_isSlot_6 : decode cX8_isSlot 6 = .ok (.if_icmp .ge 7, 3) := by decide +kernel
theorem dX8_isSlot_9 : decode cX8_isSlot 9 = .ok (.iconst 1, 1) := by decide +kernel
theorem dX8_isSlot_10 : decode cX8_isSlot 10 = .ok (.goto 4, 3) := by decide +kernel
theorem dX8_isSlot_13 : decode cX8_isSlot 13 = .ok (.iconst 0, 1) := by decide +kernel
theorem dX8_isSlot_14 : decode cX8_isSlot 14 = .ok (.ireturn, 1) := by decide +kernel
theorem dX8_isLetterMore_0 : decode cX8_isLetterMore 0 = .ok (.aload_n 0, 1) := by decide +kernel
theorem dX8_isLetterMore_1 : decode cX8_isLetterMore 1 = .ok (.getfield 28, 3) := by decide +kernel
theorem dX8_isLetterMore_4 : decode cX8_isLetterMore 4 = .ok (.iload_n 1, 1) := by decide +kernel
theorem dX8_isLetterMore_5 : decode cX8_isLetterMore 5 = .ok (.invokevirtual 128, 3) := by decide +kernel
theorem dX8_isLetterMore_8 : decode cX8_isLetterMore 8 = .ok (.ifCond .eq 34, 3) := by decide +kernel
theorem dX8_isLetterMore_42 : decode cX8_isLetterMore 42 = .ok (.iconst 0, 1) := by decide +kernel
theorem dX8_isLetterMore_43 : decode cX8_isLetterMore 43 = .ok (.ireturn, 1) := by decide +kernel
theorem dX8_usedSlots_0 : decode cX8_usedSlots 0 = .ok (.iconst 0, 1) := by decide +kernel
theorem dX8_usedSlots_1 : decode cX8_usedSlots 1 = .ok (.istore_n 1, 1) := by decide +kernel
theorem dX8_usedSlots_2 : decode cX8_usedSlots 2 = .ok (.iconst 0, 1) := by decide +kernel
theorem dX8_usedSlots_3 : decode cX8_usedSlots 3 = .ok (.istore_n 2, 1) := by decide +kernel
theorem dX8_usedSlots_4 : decode cX8_usedSlots 4 = .ok (.iload_n 2, 1) := by decide +kernel
theorem dX8_usedSlots_5 : decode cX8_usedSlots 5 = .ok (.iconst 4, 1) := by decide +kernel
theorem dX8_usedSlots_6 : decode cX8_usedSlots 6 = .ok (.if_icmp .ge 29, 3) := by decide +kernel
theorem dX8_usedSlots_9 : decode cX8_usedSlots 9 = .ok (.iload_n 1, 1) := by decide +kernel
theorem dX8_usedSlots_10 : decode cX8_usedSlots 10 = .ok (.aload_n 0, 1) := by decide +kernel
theorem dX8_usedSlots_11 : decode cX8_usedSlots 11 = .ok (.getfield 42, 3) := by decide +kernel
theorem dX8_usedSlots_14 : decode cX8_usedSlots 14 = .ok (.iload_n 2, 1) := by decide +kernel
theorem dX8_usedSlots_15 : decode cX8_usedSlots 15 = .ok (.aaload, 1) := by decide +kernel
theorem dX8_usedSlots_16 : decode cX8_usedSlots 16 = .ok (.getfield 312, 3) := by decide +kernel
theorem dX8_usedSlots_19 : decode cX8_usedSlots 19 = .ok (.ifCond .eq 7, 3) := by decide +kernel
theorem dX8_usedSlots_26 : decode cX8_usedSlots 26 = .ok (.iconst 0, 1) := by decide +kernel
theorem dX8_usedSlots_27 : decode cX8_usedSlots 27 = .ok (.iadd, 1) := by decide +kernel
theorem dX8_usedSlots_28 : decode cX8_usedSlots 28 = .ok (.istore_n 1, 1) := by decide +kernel
theorem dX8_usedSlots_29 : decode cX8_usedSlots 29 = .ok (.iinc 2 1, 3) := by decide +kernel
theorem dX8_usedSlots_32 : decode cX8_usedSlots 32 = .ok (.goto (-28), 3) := by decide +kernel
theorem dX8_usedSlots_35 : decode cX8_usedSlots 35 = .ok (.iload_n 1, 1) := by decide +kernel
theorem dX8_usedSlots_36 : decode cX8_usedSlots 36 = .ok (.ireturn, 1) := by decide +kernel
theorem dX8_changed_0 : decode cX8_changed 0 = .ok (.aload_n 0, 1) := by decide +kernel
theorem dX8_changed_1 : decode cX8_changed 1 = .ok (.iconst 0, 1) := by decide +kernel
theorem dX8_changed_2 : decode cX8_changed 2 = .ok (.putfield 83, 3) := by decide +kernel
theorem dX8_changed_5 : decode cX8_changed 5 = .ok (.aload_n 0, 1) := by decide +kernel
theorem dX8_changed_6 : decode cX8_changed 6 = .ok (.iconst 0, 1) := by decide +kernel
theorem dX8_changed_7 : decode cX8_changed 7 = .ok (.putfield 87, 3) := by decide +kernel
theorem dX8_changed_10 : decode cX8_changed 10 = .ok (.aload_n 0, 1) := by decide +kernel
theorem dX8_changed_11 : decode cX8_changed 11 = .ok (.getfield 75, 3) := by decide +kernel
theorem dX8_changed_14 : decode cX8_changed 14 = .ok (.iconst 0, 1) := by decide +kernel
theorem dX8_changed_15 : decode cX8_changed 15 = .ok (.putfield 351, 3) := by decide +kernel
theorem dX8_changed_18 : decode cX8_changed 18 = .ok (.return_, 1) := by decide +kernel
theorem dX8_findOrders_0 : decode cX8_findOrders 0 = .ok (.aload_n 0, 1) := by decide +kernel
theorem dX8_findOrders_1 : decode cX8_findOrders 1 = .ok (.getfield 28, 3) := by decide +kernel
theorem dX8_findOrders_4 : decode cX8_findOrders 4 = .ok (.iload_n 1, 1) := by decide +kernel
theorem dX8_findOrders_5 : decode cX8_findOrders 5 = .ok (.invokevirtual 128, 3) := by decide +kernel
theorem dX8_findOrders_8 : decode cX8_findOrders 8 = .ok (.ifCond .eq 14, 3) := by decide +kernel
theorem dX8_findOrders_22 : decode cX8_findOrders 22 = .ok (.bipush (-2), 2) := by decide +kernel
theorem dX8_findOrders_24 : decode cX8_findOrders 24 = .ok (.ireturn, 1) := by decide +kernel
theorem dX9_init_0 : decode cX9_init 0 = .ok (.aload_n 0, 1) := by decide +kernel
theorem dX9_init_1 : decode cX9_init 1 = .ok (.invokespecial 1, 3) := by decide +kernel
theorem dX9_init_4 : decode cX9_init 4 = .ok (.aload_n 0, 1) := by decide +kernel
theorem dX9_init_5 : decode cX9_init 5 = .ok (.iconst 4, 1) := by decide +kernel
theorem dX9_init_6 : decode cX9_init 6 = .ok (.newarray .int, 2) := by decide +kernel
theorem dX9_init_8 : decode cX9_init 8 = .ok (.putfield 7, 3) := by decide +kernel
theorem dX9_init_11 : decode cX9_init 11 = .ok (.aload_n 0, 1) := by decide +kernel
theorem dX9_init_12 : decode cX9_init 12 = .ok (.iconst 4, 1) := by decide +kernel
theorem dX9_init_13 : decode cX9_init 13 = .ok (.newarray .int, 2) := by decide +kernel
theorem dX9_init_15 : decode cX9_init 15 = .ok (.putfield 13, 3) := by decide +kernel
theorem dX9_init_18 : decode cX9_init 18 = .ok (.aload_n 0, 1) := by decide +kernel
theorem dX9_init_19 : decode cX9_init 19 = .ok (.sipush 240, 3) := by decide +kernel
theorem dX9_init_22 : decode cX9_init 22 = .ok (.newarray .long, 2) := by decide +kernel
theorem dX9_init_24 : decode cX9_init 24 = .ok (.putfield 16, 3) := by decide +kernel
theorem dX9_init_27 : decode cX9_init 27 = .ok (.aload_n 0, 1) := by decide +kernel
theorem dX9_init_28 : decode cX9_init 28 = .ok (.bipush 60, 2) := by decide +kernel
theorem dX9_init_30 : decode cX9_init 30 = .ok (.newarray .long, 2) := by decide +kernel
theorem dX9_init_32 : decode cX9_init 32 = .ok (.putfield 20, 3) := by decide +kernel
theorem dX9_init_35 : decode cX9_init 35 = .ok (.aload_n 0, 1) := by decide +kernel
theorem dX9_init_36 : decode cX9_init 36 = .ok (.sipush 2400, 3) := by decide +kernel
theorem dX9_init_39 : decode cX9_init 39 = .ok (.newarray .byte, 2) := by decide +kernel
theorem dX9_init_41 : decode cX9_init 41 = .ok (.putfield 23, 3) := by decide +kernel
theorem dX9_init_44 : decode cX9_init 44 = .ok (.aload_n 0, 1) := by decide +kernel
theorem dX9_init_45 : decode cX9_init 45 = .ok (.iconst (-1), 1) := by decide +kernel
theorem dX9_init_46 : decode cX9_init 46 = .ok (.putfield 27, 3) := by decide +kernel
theorem dX9_init_49 : decode cX9_init 49 = .ok (.aload_n 0, 1) := by decide +kernel
theorem dX9_init_50 : decode cX9_init 50 = .ok (.iconst 5, 1) := by decide +kernel
theorem dX9_init_51 : decode cX9_init 51 = .ok (.newarray .int, 2) := by decide +kernel
theorem dX9_init_53 : decode cX9_init 53 = .ok (.putfield 31, 3) := by decide +kernel
theorem dX9_init_56 : decode cX9_init 56 = .ok (.aload_n 0, 1) := by decide +kernel
theorem dX9_init_57 : decode cX9_init 57 = .ok (.bipush 30, 2) := by decide +kernel
theorem dX9_init_59 : decode cX9_init 59 = .ok (.newarray .int, 2) := by decide +kernel
theorem dX9_init_61 : decode cX9_init 61 = .ok (.putfield 34, 3) := by decide +kernel
theorem dX9_init_64 : decode cX9_init 64 = .ok (.aload_n 0, 1) := by decide +kernel
theorem dX9_init_65 : decode cX9_init 65 = .ok (.bipush 120, 2) := by decide +kernel
theorem dX9_init_67 : decode cX9_init 67 = .ok (.newarray .int, 2) := by decide +kernel
theorem dX9_init_69 : decode cX9_init 69 = .ok (.putfield 37, 3) := by decide +kernel
theorem dX9_init_72 : decode cX9_init 72 = .ok (.aload_n 0, 1) := by decide +kernel
theorem dX9_init_73 : decode cX9_init 73 = .ok (.sipush 960, 3) := by decide +kernel
theorem dX9_init_76 : decode cX9_init 76 = .ok (.newarray .int, 2) := by decide +kernel
theorem dX9_init_78 : decode cX9_init 78 = .ok (.putfield 40, 3) := by decide +kernel
theorem dX9_init_81 : decode cX9_init 81 = .ok (.aload_n 0, 1) := by decide +kernel
theorem dX9_init_82 : decode cX9_init 82 = .ok (.iconst 3, 1) := by decide +kernel
theorem dX9_init_83 : decode cX9_init 83 = .ok (.newarray .boolean, 2) := by decide +kernel
theorem dX9_init_85 : decode cX9_init 85 = .ok (.putfield 43, 3) := by decide +kernel
theorem dX9_init_88 : decode cX9_init 88 = .ok (.aload_n 0, 1) := by decide +kernel
theorem dX9_init_89 : decode cX9_init 89 = .ok (.iconst 4, 1) := by decide +kernel
theorem dX9_init_90 : decode cX9_init 90 = .ok (.newarray .int, 2) := by decide +kernel
theorem dX9_init_92 : decode cX9_init 92 = .ok (.putfield 47, 3) := by decide +kernel
theorem dX9_init_95 : decode cX9_init 95 = .ok (.aload_n 0, 1) := by decide +kernel
theorem dX9_init_96 : decode cX9_init 96 = .ok (.bipush 49, 2) := by decide +kernel
theorem dX9_init_98 : decode cX9_init 98 = .ok (.newarray .int, 2) := by decide +kernel
theorem dX9_init_100 : decode cX9_init 100 = .ok (.putfield 50, 3) := by decide +kernel
theorem dX9_init_103 : decode cX9_init 103 = .ok (.aload_n 0, 1) := by decide +kernel
theorem dX9_init_104 : decode cX9_init 104 = .ok (.bipush 49, 2) := by decide +kernel
theorem dX9_init_106 : decode cX9_init 106 = .ok (.newarray .int, 2) := by decide +kernel
theorem dX9_init_108 : decode cX9_init 108 = .ok (.putfield 53, 3) := by decide +kernel
theorem dX9_init_111 : decode cX9_init 111 = .ok (.aload_n 0, 1) := by decide +kernel
theorem dX9_init_112 : decode cX9_init 112 = .ok (.bipush 49, 2) := by decide +kernel
theorem dX9_init_114 : decode cX9_init 114 = .ok (.newarray .int, 2) := by decide +kernel
theorem dX9_init_116 : decode cX9_init 116 = .ok (.putfield 56, 3) := by decide +kernel
theorem dX9_init_119 : decode cX9_init 119 = .ok (.aload_n 0, 1) := by decide +kernel
theorem dX9_init_120 : decode cX9_init 120 = .ok (.sipush 1960, 3) := by decide +kernel
theorem dX9_init_123 : decode cX9_init 123 = .ok (.newarray .int, 2) := by decide +kernel
theorem dX9_init_125 : decode cX9_init 125 = .ok (.putfield 59, 3) := by decide +kernel
theorem dX9_init_128 : decode cX9_init 128 = .ok (.aload_n 0, 1) := by decide +kernel
theorem dX9_init_129 : decode cX9_init 129 = .ok (.bipush 49, 2) := by decide +kernel
theorem dX9_init_131 : decode cX9_init 131 = .ok (.newarray .boolean, 2) := by decide +kernel
theorem dX9_init_133 : decode cX9_init 133 = .ok (.putfield 62, 3) := by decide +kernel
theorem dX9_init_136 : decode cX9_init 136 = .ok (.aload_n 0, 1) := by decide +kernel
theorem dX9_init_137 : decode cX9_init 137 = .ok (.bipush 64, 2) := by decide +kernel
theorem dX9_init_139 : decode cX9_init 139 = .ok (.newarray .int, 2) := by decide +kernel
theorem dX9_init_141 : decode cX9_init 141 = .ok (.putfield 65, 3) := by decide +kernel
theorem dX9_init_144 : decode cX9_init 144 = .ok (.aload_n 0, 1) := by decide +kernel
theorem dX9_init_145 : decode cX9_init 145 = .ok (.sipush 320, 3) := by decide +kernel
theorem dX9_init_148 : decode cX9_init 148 = .ok (.newarray .int, 2) := by decide +kernel
theorem dX9_init_150 : decode cX9_init 150 = .ok (.putfield 68, 3) := by decide +kernel
theorem dX9_init_153 : decode cX9_init 153 = .ok (.aload_n 0, 1) := by decide +kernel
theorem dX9_init_154 : decode cX9_init 154 = .ok (.sipush 320, 3) := by decide +kernel
theorem dX9_init_157 : decode cX9_init 157 = .ok (.newarray .int, 2) := by decide +kernel
theorem dX9_init_159 : decode cX9_init 159 = .ok (.putfield 71, 3) := by decide +kernel
theorem dX9_init_162 : decode cX9_init 162 = .ok (.aload_n 0, 1) := by decide +kernel
theorem dX9_init_163 : decode cX9_init 163 = .ok (.bipush 49, 2) := by decide +kernel
theorem dX9_init_165 : decode cX9_init 165 = .ok (.newarray .int, 2) := by decide +kernel
theorem dX9_init_167 : decode cX9_init 167 = .ok (.putfield 74, 3) := by decide +kernel
theorem dX9_init_170 : decode cX9_init 170 = .ok (.aload_n 0, 1) := by decide +kernel
theorem dX9_init_171 : decode cX9_init 171 = .ok (.bipush 49, 2) := by decide +kernel
theorem dX9_init_173 : decode cX9_init 173 = .ok (.newarray .int, 2) := by decide +kernel
theorem dX9_init_175 : decode cX9_init 175 = .ok (.putfield 77, 3) := by decide +kernel
theorem dX9_init_178 : decode cX9_init 178 = .ok (.aload_n 0, 1) := by decide +kernel
theorem dX9_init_179 : decode cX9_init 179 = .ok (.bipush 24, 2) := by decide +kernel
theorem dX9_init_181 : decode cX9_init 181 = .ok (.newarray .int, 2) := by decide +kernel
theorem dX9_init_183 : decode cX9_init 183 = .ok (.putfield 80, 3) := by decide +kernel
theorem dX9_init_186 : decode cX9_init 186 = .ok (.aload_n 0, 1) := by decide +kernel
theorem dX9_init_187 : decode cX9_init 187 = .ok (.bipush 6, 2) := by decide +kernel
theorem dX9_init_189 : decode cX9_init 189 = .ok (.newarray .int, 2) := by decide +kernel
theorem dX9_init_191 : decode cX9_init 191 = .ok (.putfield 83, 3) := by decide +kernel
theorem dX9_init_194 : decode cX9_init 194 = .ok (.aload_n 0, 1) := by decide +kernel
theorem dX9_init_195 : decode cX9_init 195 = .ok (.bipush 6, 2) := by decide +kernel
theorem dX9_init_197 : decode cX9_init 197 = .ok (.newarray .int, 2) := by decide +kernel
theorem dX9_init_199 : decode cX9_init 199 = .ok (.putfield 86, 3) := by decide +kernel
theorem dX9_init_202 : decode cX9_init 202 = .ok (.aload_n 0, 1) := by decide +kernel
theorem dX9_init_203 : decode cX9_init 203 = .ok (.bipush 24, 2) := by decide +kernel
theorem dX9_init_205 : decode cX9_init 205 = .ok (.newarray .int, 2) := by decide +kernel
theorem dX9_init_207 : decode cX9_init 207 = .ok (.putfield 89, 3) := by decide +kernel
theorem dX9_init_210 : decode cX9_init 210 = .ok (.aload_n 0, 1) := by decide +kernel
theorem dX9_init_211 : decode cX9_init 211 = .ok (.bipush 24, 2) := by decide +kernel
theorem dX9_init_213 : decode cX9_init 213 = .ok (.newarray .int, 2) := by decide +kernel
theorem dX9_init_215 : decode cX9_init 215 = .ok (.putfield 92, 3) := by decide +kernel
theorem dX9_init_218 : decode cX9_init 218 = .ok (.iconst 0, 1) := by decide +kernel
theorem dX9_init_219 : decode cX9_init 219 = .ok (.istore_n 1, 1) := by decide +kernel
theorem dX9_init_220 : decode cX9_init 220 = .ok (.iload_n 1, 1) := by decide +kernel
theorem dX9_init_221 : decode cX9_init 221 = .ok (.iconst 4, 1) := by decide +kernel
theorem dX9_init_222 : decode cX9_init 222 = .ok (.if_icmp .ge 16, 3) := by decide +kernel
theorem dX9_init_225 : decode cX9_init 225 = .ok (.aload_n 0, 1) := by decide +kernel
theorem dX9_init_226 : decode cX9_init 226 = .ok (.getfield 7, 3) := by decide +kernel
theorem dX9_init_229 : decode cX9_init 229 = .ok (.iload_n 1, 1) := by decide +kernel
theorem dX9_init_230 : decode cX9_init 230 = .ok (.iconst (-1), 1) := by decide +kernel
theorem dX9_init_231 : decode cX9_init 231 = .ok (.iastore, 1) := by decide +kernel
theorem dX9_init_232 : decode cX9_init 232 = .ok (.iinc 1 1, 3) := by decide +kernel
theorem dX9_init_235 : decode cX9_init 235 = .ok (.goto (-15), 3) := by decide +kernel
theorem dX9_init_238 : decode cX9_init 238 = .ok (.return_, 1) := by decide +kernel
theorem dX9_in_0 : decode cX9_in 0 = .ok (.lload_n 0, 1) := by decide +kernel
theorem dX9_in_1 : decode cX9_in 1 = .ok (.lload_n 2, 1) := by decide +kernel
theorem dX9_in_2 : decode cX9_in 2 = .ok (.lcmp, 1) := by decide +kernel
theorem dX9_in_3 : decode cX9_in 3 = .ok (.ifCond .lt 14, 3) := by decide +kernel
theorem dX9_in_6 : decode cX9_in 6 = .ok (.lload_n 0, 1) := by decide +kernel
theorem dX9_in_7 : decode cX9_in 7 = .ok (.lload 4, 2) := by decide +kernel
theorem dX9_in_9 : decode cX9_in 9 = .ok (.lcmp, 1) := by decide +kernel
theorem dX9_in_10 : decode cX9_in 10 = .ok (.ifCond .gt 7, 3) := by decide +kernel
theorem dX9_in_13 : decode cX9_in 13 = .ok (.iconst 1, 1) := by decide +kernel
theorem dX9_in_14 : decode cX9_in 14 = .ok (.goto 4, 3) := by decide +kernel
theorem dX9_in_17 : decode cX9_in 17 = .ok (.iconst 0, 1) := by decide +kernel
theorem dX9_in_18 : decode cX9_in 18 = .ok (.ireturn, 1) := by decide +kernel
theorem dX9_isSlot_0 : decode cX9_isSlot 0 = .ok (.iload_n 0, 1) := by decide +kernel
theorem dX9_isSlot_1 : decode cX9_isSlot 1 = .ok (.i2l, 1) := by decide +kernel
theorem dX9_isSlot_2 : decode cX9_isSlot 2 = .ok (.lconst 0, 1) := by decide +kernel
theorem dX9_isSlot_3 : decode cX9_isSlot 3 = .ok (.ldc2_w 98, 3) := by decide +kernel
theorem dX9_isSlot_6 : decode cX9_isSlot 6 = .ok (.invokestatic 100, 3) := by decide +kernel
theorem dX9_isSlot_9 : decode cX9_isSlot 9 = .ok (.ireturn, 1) := by decide +kernel
theorem dX9_row_0 : decode cX9_row 0 = .ok (.aload_n 0, 1) := by decide +kernel
theorem dX9_row_1 : decode cX9_row 1 = .ok (.iconst 0, 1) := by decide +kernel
theorem dX9_row_2 : decode cX9_row 2 = .ok (.putfield 95, 3) := by decide +kernel
theorem dX9_row_5 : decode cX9_row 5 = .ok (.iload_n 1, 1) := by decide +kernel
theorem dX9_row_6 : decode cX9_row 6 = .ok (.invokestatic 104, 3) := by decide +kernel
theorem dX9_row_9 : decode cX9_row 9 = .ok (.ifCond .eq 21, 3) := by decide +kernel
theorem dX9_row_12 : decode cX9_row 12 = .ok (.iload_n 2, 1) := by decide +kernel
theorem dX9_row_13 : decode cX9_row 13 = .ok (.i2l, 1) := by decide +kernel
theorem dX9_row_14 : decode cX9_row 14 = .ok (.lconst 0, 1) := by decide +kernel
theorem dX9_row_15 : decode cX9_row 15 = .ok (.ldc2_w 98, 3) := by decide +kernel
theorem dX9_row_18 : decode cX9_row 18 = .ok (.invokestatic 100, 3) := by decide +kernel
theorem dX9_row_21 : decode cX9_row 21 = .ok (.ifCond .eq 9, 3) := by decide +kernel
theorem dX9_row_24 : decode cX9_row 24 = .ok (.iload_n 3, 1) := by decide +kernel
theorem dX9_row_25 : decode cX9_row 25 = .ok (.bipush 60, 2) := by decide +kernel
theorem dX9_row_27 : decode cX9_row 27 = .ok (.if_icmp .le 6, 3) := by decide +kernel
theorem dX9_row_30 : decode cX9_row 30 = .ok (.bipush (-2), 2) := by decide +kernel
theorem dX9_row_32 : decode cX9_row 32 = .ok (.ireturn, 1) := by decide +kernel
theorem dX9_row_33 : decode cX9_row 33 = .ok (.iload_n 3, 1) := by decide +kernel
theorem dX9_row_34 : decode cX9_row 34 = .ok (.ifCond .ge 6, 3) := by decide +kernel
theorem dX9_row_37 : decode cX9_row 37 = .ok (.bipush (-3), 2) := by decide +kernel
theorem dX9_row_39 : decode cX9_row 39 = .ok (.ireturn, 1) := by decide +kernel
theorem dX9_row_40 : decode cX9_row 40 = .ok (.aload_n 0, 1) := by decide +kernel
theorem dX9_row_41 : decode cX9_row 41 = .ok (.getfield 7, 3) := by decide +kernel
theorem dX9_row_44 : decode cX9_row 44 = .ok (.iload_n 1, 1) := by decide +kernel
theorem dX9_row_45 : decode cX9_row 45 = .ok (.iload_n 2, 1) := by decide +kernel
theorem dX9_row_46 : decode cX9_row 46 = .ok (.iastore, 1) := by decide +kernel
theorem dX9_row_47 : decode cX9_row 47 = .ok (.aload_n 0, 1) := by decide +kernel
theorem dX9_row_48 : decode cX9_row 48 = .ok (.getfield 13, 3) := by decide +kernel
theorem dX9_row_51 : decode cX9_row 51 = .ok (.iload_n 1, 1) := by decide +kernel
theorem dX9_row_52 : decode cX9_row 52 = .ok (.iload_n 3, 1) := by decide +kernel
theorem dX9_row_53 : decode cX9_row 53 = .ok (.iastore, 1) := by decide +kernel
theorem dX9_row_54 : decode cX9_row 54 = .ok (.iconst 0, 1) := by decide +kernel
theorem dX9_row_55 : decode cX9_row 55 = .ok (.istore 4, 2) := by decide +kernel
theorem dX9_row_57 : decode cX9_row 57 = .ok (.iload 4, 2) := by decide +kernel
theorem dX9_row_59 : decode cX9_row 59 = .ok (.iload_n 3, 1) := by decide +kernel
theorem dX9_row_60 : decode cX9_row 60 = .ok (.if_icmp .ge 22, 3) := by decide +kernel
theorem dX9_row_63 : decode cX9_row 63 = .ok (.aload_n 0, 1) := by decide +kernel
theorem dX9_row_64 : decode cX9_row 64 = .ok (.getfield 16, 3) := by decide +kernel
theorem dX9_row_67 : decode cX9_row 67 = .ok (.bipush 60, 2) := by decide +kernel
theorem dX9_row_69 : decode cX9_row 69 = .ok (.iload_n 1, 1) := by decide +kernel
theorem dX9_row_70 : decode cX9_row 70 = .ok (.imul, 1) := by decide +kernel
theorem dX9_row_71 : decode cX9_row 71 = .ok (.iload 4, 2) := by decide +kernel
theorem dX9_row_73 : decode cX9_row 73 = .ok (.iadd, 1) := by decide +kernel
theorem dX9_row_74 : decode cX9_row 74 = .ok (.lconst 0, 1) := by decide +kernel
theorem dX9_row_75 : decode cX9_row 75 = .ok (.lastore, 1) := by decide +kernel
theorem dX9_row_76 : decode cX9_row 76 = .ok (.iinc 4 1, 3) := by decide +kernel
theorem dX9_row_79 : decode cX9_row 79 = .ok (.goto (-22), 3) := by decide +kernel
theorem dX9_row_82 : decode cX9_row 82 = .ok (.iconst 0, 1) := by decide +kernel
theorem dX9_row_83 : decode cX9_row 83 = .ok (.ireturn, 1) := by decide +kernel
theorem dX9_write_0 : decode cX9_write 0 = .ok (.aload_n 0, 1) := by decide +kernel
theorem dX9_write_1 : decode cX9_write 1 = .ok (.iconst 0, 1) := by decide +kernel
theorem dX9_write_2 : decode cX9_write 2 = .ok (.putfield 95, 3) := by decide +kernel
theorem dX9_write_5 : decode cX9_write 5 = .ok (.iload_n 1, 1) := by decide +kernel
theorem dX9_write_6 : decode cX9_write 6 = .ok (.invokestatic 104, 3) := by decide +kernel
theorem dX9_write_9 : decode cX9_write 9 = .ok (.ifCond .ne 6, 3) := by decide +kernel
theorem dX9_write_12 : decode cX9_write 12 = .ok (.bipush (-2), 2) := by decide +kernel
theorem dX9_write_14 : decode cX9_write 14 = .ok (.ireturn, 1) := by decide +kernel
theorem dX9_write_15 : decode cX9_write 15 = .ok (.aload_n 0, 1) := by decide +kernel
theorem dX9_write_16 : decode cX9_write 16 = .ok (.getfield 7, 3) := by decide +kernel
theorem dX9_write_19 : decode cX9_write 19 = .ok (.iload_n 1, 1) := by decide +kernel
theorem dX9_write_20 : decode cX9_write 20 = .ok (.iaload, 1) := by decide +kernel
theorem dX9_write_21 : decode cX9_write 21 = .ok (.iconst (-1), 1) := by decide +kernel
theorem dX9_write_22 : decode cX9_write 22 = .ok (.if_icmp .ne 6, 3) := by decide +kernel
theorem dX9_write_25 : decode cX9_write 25 = .ok (.bipush (-6), 2) := by decide +kernel
theorem dX9_write_27 : decode cX9_write 27 = .ok (.ireturn, 1) := by decide +kernel
theorem dX9_paste_0 : decode cX9_paste 0 = .ok (.aload_n 0, 1) := by decide +kernel
theorem dX9_paste_1 : decode cX9_paste 1 = .ok (.iconst 0, 1) := by decide +kernel
theorem dX9_paste_2 : decode cX9_paste 2 = .ok (.putfield 95, 3) := by decide +kernel
theorem dX9_paste_5 : decode cX9_paste 5 = .ok (.iload_n 1, 1) := by decide +kernel
theorem dX9_paste_6 : decode cX9_paste 6 = .ok (.invokestatic 104, 3) := by decide +kernel
theorem dX9_paste_9 : decode cX9_paste 9 = .ok (.ifCond .eq 10, 3) := by decide +kernel
theorem dX9_paste_12 : decode cX9_paste 12 = .ok (.iload_n 3, 1) := by decide +kernel
theorem dX9_paste_13 : decode cX9_paste 13 = .ok (.invokestatic 104, 3) := by decide +kernel
theorem dX9_paste_16 : decode cX9_paste 16 = .ok (.ifCond .ne 6, 3) := by decide +kernel
theorem dX9_paste_19 : decode cX9_paste 19 = .ok (.bipush (-2), 2) := by decide +kernel
theorem dX9_paste_21 : decode cX9_paste 21 = .ok (.ireturn, 1) := by decide +kernel
theorem dX9_paste_22 : decode cX9_paste 22 = .ok (.aload_n 0, 1) := by decide +kernel
theorem dX9_paste_23 : decode cX9_paste 23 = .ok (.getfield 7, 3) := by decide +kernel
theorem dX9_paste_26 : decode cX9_paste 26 = .ok (.iload_n 1, 1) := by decide +kernel
theorem dX9_paste_27 : decode cX9_paste 27 = .ok (.iaload, 1) := by decide +kernel
theorem dX9_paste_28 : decode cX9_paste 28 = .ok (.iconst (-1), 1) := by decide +kernel
theorem dX9_paste_29 : decode cX9_paste 29 = .ok (.if_icmp .eq 13, 3) := by decide +kernel
theorem dX9_paste_42 : decode cX9_paste 42 = .ok (.bipush (-6), 2) := by decide +kernel
theorem dX9_paste_44 : decode cX9_paste 44 = .ok (.ireturn, 1) := by decide +kernel
theorem dX9_feed_0 : decode cX9_feed 0 = .ok (.aload_n 0, 1) := by decide +kernel
theorem dX9_feed_1 : decode cX9_feed 1 = .ok (.iconst 0, 1) := by decide +kernel
theorem dX9_feed_2 : decode cX9_feed 2 = .ok (.putfield 95, 3) := by decide +kernel
theorem dX9_feed_5 : decode cX9_feed 5 = .ok (.aload_n 0, 1) := by decide +kernel
theorem dX9_feed_6 : decode cX9_feed 6 = .ok (.getfield 112, 3) := by decide +kernel
theorem dX9_feed_9 : decode cX9_feed 9 = .ok (.bipush 20, 2) := by decide +kernel
theorem dX9_feed_11 : decode cX9_feed 11 = .ok (.iadd, 1) := by decide +kernel
theorem dX9_feed_12 : decode cX9_feed 12 = .ok (.sipush 2400, 3) := by decide +kernel
theorem dX9_feed_15 : decode cX9_feed 15 = .ok (.if_icmp .le 5, 3) := by decide +kernel
theorem dX9_feed_20 : decode cX9_feed 20 = .ok (.aload_n 0, 1) := by decide +kernel
theorem dX9_feed_21 : decode cX9_feed 21 = .ok (.iload_n 1, 1) := by decide +kernel
theorem dX9_feed_22 : decode cX9_feed 22 = .ok (.invokevirtual 115, 3) := by decide +kernel
theorem dX9_feed_25 : decode cX9_feed 25 = .ok (.aload_n 0, 1) := by decide +kernel
theorem dX9_feed_26 : decode cX9_feed 26 = .ok (.iload_n 2, 1) := by decide +kernel
theorem dX9_feed_27 : decode cX9_feed 27 = .ok (.invokevirtual 115, 3) := by decide +kernel
theorem dX9_feed_30 : decode cX9_feed 30 = .ok (.aload_n 0, 1) := by decide +kernel
theorem dX9_feed_31 : decode cX9_feed 31 = .ok (.iload_n 3, 1) := by decide +kernel
theorem dX9_feed_32 : decode cX9_feed 32 = .ok (.invokevirtual 115, 3) := by decide +kernel
theorem dX9_feed_35 : decode cX9_feed 35 = .ok (.aload_n 0, 1) := by decide +kernel
theorem dX9_feed_36 : decode cX9_feed 36 = .ok (.iload 4, 2) := by decide +kernel
theorem dX9_feed_38 : decode cX9_feed 38 = .ok (.invokevirtual 115, 3) := by decide +kernel
theorem dX9_feed_41 : decode cX9_feed 41 = .ok (.aload_n 0, 1) := by decide +kernel
theorem dX9_feed_42 : decode cX9_feed 42 = .ok (.iload 5, 2) := by decide +kernel
theorem dX9_feed_44 : decode cX9_feed 44 = .ok (.invokevirtual 115, 3) := by decide +kernel
theorem dX9_feed_47 : decode cX9_feed 47 = .ok (.aload_n 0, 1) := by decide +kernel
theorem dX9_feed_48 : decode cX9_feed 48 = .ok (.getfield 112, 3) := by decide +kernel
theorem dX9_feed_51 : decode cX9_feed 51 = .ok (.ireturn, 1) := by decide +kernel
theorem dX9_four_0 : decode cX9_four 0 = .ok (.bipush 24, 2) := by decide +kernel
theorem dX9_four_2 : decode cX9_four 2 = .ok (.istore_n 2, 1) := by decide +kernel
theorem dX9_four_3 : decode cX9_four 3 = .ok (.iload_n 2, 1) := by decide +kernel
theorem dX9_four_4 : decode cX9_four 4 = .ok (.ifCond .lt 32, 3) := by decide +kernel
theorem dX9_four_7 : decode cX9_four 7 = .ok (.aload_n 0, 1) := by decide +kernel
theorem dX9_four_8 : decode cX9_four 8 = .ok (.getfield 23, 3) := by decide +kernel
theorem dX9_four_11 : decode cX9_four 11 = .ok (.aload_n 0, 1) := by decide +kernel
theorem dX9_four_12 : decode cX9_four 12 = .ok (.getfield 112, 3) := by decide +kernel
theorem dX9_four_15 : decode cX9_four 15 = .ok (.iload_n 1, 1) := by decide +kernel
theorem dX9_four_16 : decode cX9_four 16 = .ok (.iload_n 2, 1) := by decide +kernel
theorem dX9_four_17 : decode cX9_four 17 = .ok (.ishr, 1) := by decide +kernel
theorem dX9_four_18 : decode cX9_four 18 = .ok (.i2b, 1) := by decide +kernel
theorem dX9_four_19 : decode cX9_four 19 = .ok (.bastore, 1) := by decide +kernel
theorem dX9_four_20 : decode cX9_four 20 = .ok (.aload_n 0, 1) := by decide +kernel
theorem dX9_four_21 : decode cX9_four 21 = .ok (.dup, 1) := by decide +kernel
theorem dX9_four_22 : decode cX9_four 22 = .ok (.getfield 112, 3) := by decide +kernel
theorem dX9_four_25 : decode cX9_four 25 = .ok (.iconst 1, 1) := by decide +kernel
theorem dX9_four_26 : decode cX9_four 26 = .ok (.iadd, 1) := by decide +kernel
theorem dX9_four_27 : decode cX9_four 27 = .ok (.putfield 112, 3) := by decide +kernel
theorem dX9_four_30 : decode cX9_four 30 = .ok (.iinc 2 (-8), 3) := by decide +kernel
theorem dX9_four_33 : decode cX9_four 33 = .ok (.goto (-30), 3) := by decide +kernel
theorem dX9_four_36 : decode cX9_four 36 = .ok (.return_, 1) := by decide +kernel
theorem dX9_end_0 : decode cX9_end 0 = .ok (.aload_n 0, 1) := by decide +kernel
theorem dX9_end_1 : decode cX9_end 1 = .ok (.iconst 0, 1) := by decide +kernel
theorem dX9_end_2 : decode cX9_end 2 = .ok (.putfield 95, 3) := by decide +kernel
theorem dX9_end_5 : decode cX9_end 5 = .ok (.iload_n 1, 1) := by decide +kernel
theorem dX9_end_6 : decode cX9_end 6 = .ok (.i2l, 1) := by decide +kernel
theorem dX9_end_7 : decode cX9_end 7 = .ok (.lconst 0, 1) := by decide +kernel
theorem dX9_end_8 : decode cX9_end 8 = .ok (.aload_n 0, 1) := by decide +kernel
theorem dX9_end_9 : decode cX9_end 9 = .ok (.getfield 112, 3) := by decide +kernel
theorem dX9_end_12 : decode cX9_end 12 = .ok (.i2l, 1) := by decide +kernel
theorem dX9_end_13 : decode cX9_end 13 = .ok (.invokestatic 100, 3) := by decide +kernel
theorem dX9_end_16 : decode cX9_end 16 = .ok (.ifCond .ne 5, 3) := by decide +kernel
theorem dX9_end_19 : decode cX9_end 19 = .ok (.iconst (-1), 1) := by decide +kernel
theorem dX9_end_20 : decode cX9_end 20 = .ok (.ireturn, 1) := by decide +kernel
theorem dX9_end_21 : decode cX9_end 21 = .ok (.aload_n 0, 1) := by decide +kernel
theorem dX9_end_22 : decode cX9_end 22 = .ok (.iload_n 1, 1) := by decide +kernel
theorem dX9_end_23 : decode cX9_end 23 = .ok (.putfield 112, 3) := by decide +kernel
theorem dX9_end_26 : decode cX9_end 26 = .ok (.iload_n 1, 1) := by decide +kernel
theorem dX9_end_27 : decode cX9_end 27 = .ok (.ireturn, 1) := by decide +kernel
theorem dX9_isByte_0 : decode cX9_isByte 0 = .ok (.iload_n 1, 1) := by decide +kernel
theorem dX9_isByte_1 : decode cX9_isByte 1 = .ok (.aload_n 0, 1) := by decide +kernel
theorem dX9_isByte_2 : decode cX9_isByte 2 = .ok (.getfield 112, 3) := by decide +kernel
theorem dX9_isByte_5 : decode cX9_isByte 5 = .ok (.if_icmp .ge 27, 3) := by decide +kernel
theorem dX9_isByte_32 : decode cX9_isByte 32 = .ok (.iconst 0, 1) := by decide +kernel
theorem dX9_isByte_33 : decode cX9_isByte 33 = .ok (.ireturn, 1) := by decide +kernel
theorem dX9_next_0 : decode cX9_next 0 = .ok (.aload_n 0, 1) := by decide +kernel
theorem dX9_next_1 : decode cX9_next 1 = .ok (.aload_n 0, 1) := by decide +kernel
theorem dX9_next_2 : decode cX9_next 2 = .ok (.getfield 119, 3) := by decide +kernel
theorem dX9_next_5 : decode cX9_next 5 = .ok (.bipush 32, 2) := by decide +kernel
theorem dX9_next_7 : decode cX9_next 7 = .ok (.bipush 32, 2) := by decide +kernel
theorem dX9_next_9 : decode cX9_next 9 = .ok (.invokevirtual 122, 3) := by decide +kernel
theorem dX9_next_12 : decode cX9_next 12 = .ok (.ifCond .ne 18, 3) := by decide +kernel
theorem dX9_next_15 : decode cX9_next 15 = .ok (.aload_n 0, 1) := by decide +kernel
theorem dX9_next_16 : decode cX9_next 16 = .ok (.aload_n 0, 1) := by decide +kernel
theorem dX9_next_17 : decode cX9_next 17 = .ok (.getfield 119, 3) := by decide +kernel
theorem dX9_next_20 : decode cX9_next 20 = .ok (.bipush 10, 2) := by decide +kernel
theorem dX9_next_22 : decode cX9_next 22 = .ok (.bipush 10, 2) := by decide +kernel
theorem dX9_next_24 : decode cX9_next 24 = .ok (.invokevirtual 122, 3) := by decide +kernel
theorem dX9_next_27 : decode cX9_next 27 = .ok (.ifCond .eq 16, 3) := by decide +kernel
theorem dX9_next_43 : decode cX9_next 43 = .ok (.aload_n 0, 1) := by decide +kernel
theorem dX9_next_44 : decode cX9_next 44 = .ok (.aload_n 0, 1) := by decide +kernel
theorem dX9_next_45 : decode cX9_next 45 = .ok (.getfield 119, 3) := by decide +kernel
theorem dX9_next_48 : decode cX9_next 48 = .ok (.putfield 126, 3) := by decide +kernel
theorem dX9_next_51 : decode cX9_next 51 = .ok (.aload_n 0, 1) := by decide +kernel
theorem dX9_next_52 : decode cX9_next 52 = .ok (.iconst 0, 1) := by decide +kernel
theorem dX9_next_53 : decode cX9_next 53 = .ok (.putfield 129, 3) := by decide +kernel
theorem dX9_next_56 : decode cX9_next 56 = .ok (.aload_n 0, 1) := by decide +kernel
theorem dX9_next_57 : decode cX9_next 57 = .ok (.lconst 0, 1) := by decide +kernel
theorem dX9_next_58 : decode cX9_next 58 = .ok (.putfield 132, 3) := by decide +kernel
theorem dX9_next_61 : decode cX9_next 61 = .ok (.aload_n 0, 1) := by decide +kernel
theorem dX9_next_62 : decode cX9_next 62 = .ok (.getfield 119, 3) := by decide +kernel
theorem dX9_next_65 : decode cX9_next 65 = .ok (.aload_n 0, 1) := by decide +kernel
theorem dX9_next_66 : decode cX9_next 66 = .ok (.getfield 112, 3) := by decide +kernel
theorem dX9_next_69 : decode cX9_next 69 = .ok (.if_icmp .ne 11, 3) := by decide +kernel
theorem dX9_next_72 : decode cX9_next 72 = .ok (.aload_n 0, 1) := by decide +kernel
theorem dX9_next_73 : decode cX9_next 73 = .ok (.iconst 0, 1) := by decide +kernel
theorem dX9_next_74 : decode cX9_next 74 = .ok (.putfield 136, 3) := by decide +kernel
theorem dX9_next_77 : decode cX9_next 77 = .ok (.goto 230, 3) := by decide +kernel
theorem dX9_next_307 : decode cX9_next 307 = .ok (.return_, 1) := by decide +kernel
theorem dX9_isGood_0 : decode cX9_isGood 0 = .ok (.aload_n 0, 1) := by decide +kernel
theorem dX9_isGood_1 : decode cX9_isGood 1 = .ok (.getfield 147, 3) := by decide +kernel
theorem dX9_isGood_4 : decode cX9_isGood 4 = .ok (.ifCond .ne 7, 3) := by decide +kernel
theorem dX9_isGood_7 : decode cX9_isGood 7 = .ok (.iconst 1, 1) := by decide +kernel
theorem dX9_isGood_8 : decode cX9_isGood 8 = .ok (.goto 4, 3) := by decide +kernel
theorem dX9_isGood_12 : decode cX9_isGood 12 = .ok (.ireturn, 1) := by decide +kernel
theorem dX9_begins_0 : decode cX9_begins 0 = .ok (.aload_n 0, 1) := by decide +kernel
theorem dX9_begins_1 : decode cX9_begins 1 = .ok (.iconst 0, 1) := by decide +kernel
theorem dX9_begins_2 : decode cX9_begins 2 = .ok (.putfield 147, 3) := by decide +kernel
theorem dX9_begins_5 : decode cX9_begins 5 = .ok (.aload_n 0, 1) := by decide +kernel
theorem dX9_begins_6 : decode cX9_begins 6 = .ok (.iconst (-1), 1) := by decide +kernel
theorem dX9_begins_7 : decode cX9_begins 7 = .ok (.putfield 150, 3) := by decide +kernel
theorem dX9_begins_10 : decode cX9_begins 10 = .ok (.aload_n 0, 1) := by decide +kernel
theorem dX9_begins_11 : decode cX9_begins 11 = .ok (.iconst 0, 1) := by decide +kernel
theorem dX9_begins_12 : decode cX9_begins 12 = .ok (.putfield 119, 3) := by decide +kernel
theorem dX9_begins_15 : decode cX9_begins 15 = .ok (.aload_n 0, 1) := by decide +kernel
theorem dX9_begins_16 : decode cX9_begins 16 = .ok (.invokevirtual 157, 3) := by decide +kernel
theorem dX9_begins_19 : decode cX9_begins 19 = .ok (.return_, 1) := by decide +kernel
theorem dX9_isOver_0 : decode cX9_isOver 0 = .ok (.aload_n 0, 1) := by decide +kernel
theorem dX9_isOver_1 : decode cX9_isOver 1 = .ok (.iconst 0, 1) := by decide +kernel
theorem dX9_isOver_2 : decode cX9_isOver 2 = .ok (.putfield 112, 3) := by decide +kernel
theorem dX9_isOver_5 : decode cX9_isOver 5 = .ok (.aload_n 0, 1) := by decide +kernel
theorem dX9_isOver_6 : decode cX9_isOver 6 = .ok (.aload_n 0, 1) := by decide +kernel
theorem dX9_isOver_7 : decode cX9_isOver 7 = .ok (.getfield 147, 3) := by decide +kernel
theorem dX9_isOver_10 : decode cX9_isOver 10 = .ok (.putfield 174, 3) := by decide +kernel
theorem dX9_isOver_13 : decode cX9_isOver 13 = .ok (.aload_n 0, 1) := by decide +kernel
theorem dX9_isOver_14 : decode cX9_isOver 14 = .ok (.aload_n 0, 1) := by decide +kernel
theorem dX9_isOver_15 : decode cX9_isOver 15 = .ok (.getfield 147, 3) := by decide +kernel
theorem dX9_isOver_18 : decode cX9_isOver 18 = .ok (.ifCond .ne 7, 3) := by decide +kernel
theorem dX9_isOver_21 : decode cX9_isOver 21 = .ok (.iconst (-1), 1) := by decide +kernel
theorem dX9_isOver_22 : decode cX9_isOver 22 = .ok (.goto 7, 3) := by decide +kernel
theorem dX9_isOver_29 : decode cX9_isOver 29 = .ok (.putfield 27, 3) := by decide +kernel
theorem dX9_isOver_32 : decode cX9_isOver 32 = .ok (.return_, 1) := by decide +kernel
theorem dX9_fault_0 : decode cX9_fault 0 = .ok (.aload_n 0, 1) := by decide +kernel
theorem dX9_fault_1 : decode cX9_fault 1 = .ok (.iconst 0, 1) := by decide +kernel
theorem dX9_fault_2 : decode cX9_fault 2 = .ok (.putfield 95, 3) := by decide +kernel
theorem dX9_fault_5 : decode cX9_fault 5 = .ok (.iload_n 1, 1) := by decide +kernel
theorem dX9_fault_6 : decode cX9_fault 6 = .ok (.ifCond .ne 10, 3) := by decide +kernel
theorem dX9_fault_9 : decode cX9_fault 9 = .ok (.aload_n 0, 1) := by decide +kernel
theorem dX9_fault_10 : decode cX9_fault 10 = .ok (.getfield 174, 3) := by decide +kernel
theorem dX9_fault_13 : decode cX9_fault 13 = .ok (.goto 16, 3) := by decide +kernel
theorem dX9_fault_16 : decode cX9_fault 16 = .ok (.iload_n 1, 1) := by decide +kernel
theorem dX9_fault_17 : decode cX9_fault 17 = .ok (.iconst 1, 1) := by decide +kernel
theorem dX9_fault_18 : decode cX9_fault 18 = .ok (.if_icmp .ne 10, 3) := by decide +kernel
theorem dX9_fault_21 : decode cX9_fault 21 = .ok (.aload_n 0, 1) := by decide +kernel
theorem dX9_fault_22 : decode cX9_fault 22 = .ok (.getfield 27, 3) := by decide +kernel
theorem dX9_fault_25 : decode cX9_fault 25 = .ok (.goto 4, 3) := by decide +kernel
theorem dX9_fault_28 : decode cX9_fault 28 = .ok (.iconst (-1), 1) := by decide +kernel
theorem dX9_fault_29 : decode cX9_fault 29 = .ok (.ireturn, 1) := by decide +kernel
theorem dX9_clears_0 : decode cX9_clears 0 = .ok (.aload_n 0, 1) := by decide +kernel
theorem dX9_clears_1 : decode cX9_clears 1 = .ok (.getfield 31, 3) := by decide +kernel
theorem dX9_clears_4 : decode cX9_clears 4 = .ok (.iconst 4, 1) := by decide +kernel
theorem dX9_clears_5 : decode cX9_clears 5 = .ok (.iconst 0, 1) := by decide +kernel
theorem dX9_clears_6 : decode cX9_clears 6 = .ok (.iastore, 1) := by decide +kernel
theorem dX9_clears_7 : decode cX9_clears 7 = .ok (.iconst 0, 1) := by decide +kernel
theorem dX9_clears_8 : decode cX9_clears 8 = .ok (.istore_n 1, 1) := by decide +kernel
theorem dX9_clears_9 : decode cX9_clears 9 = .ok (.iload_n 1, 1) := by decide +kernel
theorem dX9_clears_10 : decode cX9_clears 10 = .ok (.bipush 6, 2) := by decide +kernel
theorem dX9_clears_12 : decode cX9_clears 12 = .ok (.if_icmp .ge 28, 3) := by decide +kernel
theorem dX9_clears_15 : decode cX9_clears 15 = .ok (.aload_n 0, 1) := by decide +kernel
theorem dX9_clears_16 : decode cX9_clears 16 = .ok (.getfield 34, 3) := by decide +kernel
theorem dX9_clears_19 : decode cX9_clears 19 = .ok (.bipush 24, 2) := by decide +kernel
theorem dX9_clears_21 : decode cX9_clears 21 = .ok (.iload_n 1, 1) := by decide +kernel
theorem dX9_clears_22 : decode cX9_clears 22 = .ok (.iadd, 1) := by decide +kernel
theorem dX9_clears_23 : decode cX9_clears 23 = .ok (.iload_n 1, 1) := by decide +kernel
theorem dX9_clears_24 : decode cX9_clears 24 = .ok (.iconst 5, 1) := by decide +kernel
theorem dX9_clears_25 : decode cX9_clears 25 = .ok (.if_icmp .ne 7, 3) := by decide +kernel
theorem dX9_clears_28 : decode cX9_clears 28 = .ok (.iconst 1, 1) := by decide +kernel
theorem dX9_clears_29 : decode cX9_clears 29 = .ok (.goto 4, 3) := by decide +kernel
theorem dX9_clears_32 : decode cX9_clears 32 = .ok (.iconst 0, 1) := by decide +kernel
theorem dX9_clears_33 : decode cX9_clears 33 = .ok (.iastore, 1) := by decide +kernel
theorem dX9_clears_34 : decode cX9_clears 34 = .ok (.iinc 1 1, 3) := by decide +kernel
theorem dX9_clears_37 : decode cX9_clears 37 = .ok (.goto (-28), 3) := by decide +kernel
theorem dX9_clears_40 : decode cX9_clears 40 = .ok (.aload_n 0, 1) := by decide +kernel
theorem dX9_clears_41 : decode cX9_clears 41 = .ok (.iconst 0, 1) := by decide +kernel
theorem dX9_clears_42 : decode cX9_clears 42 = .ok (.putfield 224, 3) := by decide +kernel
theorem dX9_clears_45 : decode cX9_clears 45 = .ok (.return_, 1) := by decide +kernel
theorem dX9_town_0 : decode cX9_town 0 = .ok (.aload_n 0, 1) := by decide +kernel
theorem dX9_town_1 : decode cX9_town 1 = .ok (.iconst 0, 1) := by decide +kernel
theorem dX9_town_2 : decode cX9_town 2 = .ok (.putfield 95, 3) := by decide +kernel
theorem dX9_town_5 : decode cX9_town 5 = .ok (.aload_n 0, 1) := by decide +kernel
theorem dX9_town_6 : decode cX9_town 6 = .ok (.invokevirtual 237, 3) := by decide +kernel
theorem dX9_town_9 : decode cX9_town 9 = .ok (.aload_n 0, 1) := by decide +kernel
theorem dX9_town_10 : decode cX9_town 10 = .ok (.invokevirtual 240, 3) := by decide +kernel
theorem dX9_town_13 : decode cX9_town 13 = .ok (.aload_n 0, 1) := by decide +kernel
theorem dX9_town_14 : decode cX9_town 14 = .ok (.invokevirtual 243, 3) := by decide +kernel
theorem dX9_town_17 : decode cX9_town 17 = .ok (.ifCond .eq 91, 3) := by decide +kernel
theorem dX9_town_20 : decode cX9_town 20 = .ok (.aload_n 0, 1) := by decide +kernel
theorem dX9_town_21 : decode cX9_town 21 = .ok (.getfield 136, 3) := by decide +kernel
theorem dX9_town_24 : decode cX9_town 24 = .ok (.ifCond .eq 84, 3) := by decide +kernel
theorem dX9_town_108 : decode cX9_town 108 = .ok (.aload_n 0, 1) := by decide +kernel
theorem dX9_town_109 : decode cX9_town 109 = .ok (.invokevirtual 259, 3) := by decide +kernel
theorem dX9_town_112 : decode cX9_town 112 = .ok (.aload_n 0, 1) := by decide +kernel
theorem dX9_town_113 : decode cX9_town 113 = .ok (.getfield 147, 3) := by decide +kernel
theorem dX9_town_116 : decode cX9_town 116 = .ok (.ifCond .eq 6, 3) := by decide +kernel
theorem dX9_town_122 : decode cX9_town 122 = .ok (.aload_n 0, 1) := by decide +kernel
theorem dX9_town_123 : decode cX9_town 123 = .ok (.iconst 4, 1) := by decide +kernel
theorem dX9_town_124 : decode cX9_town 124 = .ok (.iconst 0, 1) := by decide +kernel
theorem dX9_town_125 : decode cX9_town 125 = .ok (.invokevirtual 262, 3) := by decide +kernel
theorem dX9_town_128 : decode cX9_town 128 = .ok (.aload_n 0, 1) := by decide +kernel
theorem dX9_town_129 : decode cX9_town 129 = .ok (.getfield 31, 3) := by decide +kernel
theorem dX9_town_132 : decode cX9_town 132 = .ok (.iconst 0, 1) := by decide +kernel
theorem dX9_town_133 : decode cX9_town 133 = .ok (.iaload, 1) := by decide +kernel
theorem dX9_town_134 : decode cX9_town 134 = .ok (.ireturn, 1) := by decide +kernel
theorem dX9_copyRow_0 : decode cX9_copyRow 0 = .ok (.iconst 0, 1) := by decide +kernel
theorem dX9_copyRow_1 : decode cX9_copyRow 1 = .ok (.istore 4, 2) := by decide +kernel
theorem dX9_copyRow_3 : decode cX9_copyRow 3 = .ok (.iload 4, 2) := by decide +kernel
theorem dX9_copyRow_5 : decode cX9_copyRow 5 = .ok (.iload_n 1, 1) := by decide +kernel
theorem dX9_copyRow_6 : decode cX9_copyRow 6 = .ok (.if_icmp .ge 25, 3) := by decide +kernel
theorem dX9_copyRow_9 : decode cX9_copyRow 9 = .ok (.aload_n 0, 1) := by decide +kernel
theorem dX9_copyRow_10 : decode cX9_copyRow 10 = .ok (.iload_n 1, 1) := by decide +kernel
theorem dX9_copyRow_11 : decode cX9_copyRow 11 = .ok (.iload_n 3, 1) := by decide +kernel
theorem dX9_copyRow_12 : decode cX9_copyRow 12 = .ok (.imul, 1) := by decide +kernel
theorem dX9_copyRow_13 : decode cX9_copyRow 13 = .ok (.iload 4, 2) := by decide +kernel
theorem dX9_copyRow_15 : decode cX9_copyRow 15 = .ok (.iadd, 1) := by decide +kernel
theorem dX9_copyRow_16 : decode cX9_copyRow 16 = .ok (.aload_n 0, 1) := by decide +kernel
theorem dX9_copyRow_17 : decode cX9_copyRow 17 = .ok (.iload_n 1, 1) := by decide +kernel
theorem dX9_copyRow_18 : decode cX9_copyRow 18 = .ok (.iload_n 2, 1) := by decide +kernel
theorem dX9_copyRow_19 : decode cX9_copyRow 19 = .ok (.imul, 1) := by decide +kernel
theorem dX9_copyRow_20 : decode cX9_copyRow 20 = .ok (.iload 4, 2) := by decide +kernel
theorem dX9_copyRow_22 : decode cX9_copyRow 22 = .ok (.iadd, 1) := by decide +kernel
theorem dX9_copyRow_23 : decode cX9_copyRow 23 = .ok (.iaload, 1) := by decide +kernel
theorem dX9_copyRow_24 : decode cX9_copyRow 24 = .ok (.iastore, 1) := by decide +kernel
theorem dX9_copyRow_25 : decode cX9_copyRow 25 = .ok (.iinc 4 1, 3) := by decide +kernel
theorem dX9_copyRow_28 : decode cX9_copyRow 28 = .ok (.goto (-25), 3) := by decide +kernel
theorem dX9_copyRow_31 : decode cX9_copyRow 31 = .ok (.return_, 1) := by decide +kernel
theorem dX9_copyTown_0 : decode cX9_copyTown 0 = .ok (.aload_n 0, 1) := by decide +kernel
theorem dX9_copyTown_1 : decode cX9_copyTown 1 = .ok (.getfield 31, 3) := by decide +kernel
theorem dX9_copyTown_4 : decode cX9_copyTown 4 = .ok (.iconst 1, 1) := by decide +kernel
theorem dX9_copyTown_5 : decode cX9_copyTown 5 = .ok (.iload_n 1, 1) := by decide +kernel
theorem dX9_copyTown_6 : decode cX9_copyTown 6 = .ok (.iload_n 2, 1) := by decide +kernel
theorem dX9_copyTown_7 : decode cX9_copyTown 7 = .ok (.invokestatic 266, 3) := by decide +kernel
theorem dX9_copyTown_10 : decode cX9_copyTown 10 = .ok (.aload_n 0, 1) := by decide +kernel
theorem dX9_copyTown_11 : decode cX9_copyTown 11 = .ok (.getfield 34, 3) := by decide +kernel
theorem dX9_copyTown_14 : decode cX9_copyTown 14 = .ok (.bipush 6, 2) := by decide +kernel
theorem dX9_copyTown_16 : decode cX9_copyTown 16 = .ok (.iload_n 1, 1) := by decide +kernel
theorem dX9_copyTown_17 : decode cX9_copyTown 17 = .ok (.iload_n 2, 1) := by decide +kernel
theorem dX9_copyTown_18 : decode cX9_copyTown 18 = .ok (.invokestatic 266, 3) := by decide +kernel
theorem dX9_copyTown_21 : decode cX9_copyTown 21 = .ok (.aload_n 0, 1) := by decide +kernel
theorem dX9_copyTown_22 : decode cX9_copyTown 22 = .ok (.getfield 37, 3) := by decide +kernel
theorem dX9_copyTown_25 : decode cX9_copyTown 25 = .ok (.bipush 24, 2) := by decide +kernel
theorem dX9_copyTown_27 : decode cX9_copyTown 27 = .ok (.iload_n 1, 1) := by decide +kernel
theorem dX9_copyTown_28 : decode cX9_copyTown 28 = .ok (.iload_n 2, 1) := by decide +kernel
theorem dX9_copyTown_29 : decode cX9_copyTown 29 = .ok (.invokestatic 266, 3) := by decide +kernel
theorem dX9_copyTown_32 : decode cX9_copyTown 32 = .ok (.aload_n 0, 1) := by decide +kernel
theorem dX9_copyTown_33 : decode cX9_copyTown 33 = .ok (.getfield 40, 3) := by decide +kernel
theorem dX9_copyTown_36 : decode cX9_copyTown 36 = .ok (.sipush 192, 3) := by decide +kernel
theorem dX9_copyTown_39 : decode cX9_copyTown 39 = .ok (.iload_n 1, 1) := by decide +kernel
theorem dX9_copyTown_40 : decode cX9_copyTown 40 = .ok (.iload_n 2, 1) := by decide +kernel
theorem dX9_copyTown_41 : decode cX9_copyTown 41 = .ok (.invokestatic 266, 3) := by decide +kernel
theorem dX9_copyTown_44 : decode cX9_copyTown 44 = .ok (.return_, 1) := by decide +kernel
theorem dX9_isTown_0 : decode cX9_isTown 0 = .ok (.aload_n 0, 1) := by decide +kernel
theorem dX9_isTown_1 : decode cX9_isTown 1 = .ok (.getfield 31, 3) := by decide +kernel
theorem dX9_isTown_4 : decode cX9_isTown 4 = .ok (.iconst 0, 1) := by decide +kernel
theorem dX9_isTown_5 : decode cX9_isTown 5 = .ok (.iaload, 1) := by decide +kernel
theorem dX9_isTown_6 : decode cX9_isTown 6 = .ok (.ifCond .le 7, 3) := by decide +kernel
theorem dX9_isTown_13 : decode cX9_isTown 13 = .ok (.iconst 0, 1) := by decide +kernel
theorem dX9_isTown_14 : decode cX9_isTown 14 = .ok (.ireturn, 1) := by decide +kernel
theorem dX9_isPerson_0 : decode cX9_isPerson 0 = .ok (.iload_n 1, 1) := by decide +kernel
theorem dX9_isPerson_1 : decode cX9_isPerson 1 = .ok (.i2l, 1) := by decide +kernel
theorem dX9_isPerson_2 : decode cX9_isPerson 2 = .ok (.lconst 0, 1) := by decide +kernel
theorem dX9_isPerson_3 : decode cX9_isPerson 3 = .ok (.aload_n 0, 1) := by decide +kernel
theorem dX9_isPerson_4 : decode cX9_isPerson 4 = .ok (.getfield 34, 3) := by decide +kernel
theorem dX9_isPerson_7 : decode cX9_isPerson 7 = .ok (.iconst 2, 1) := by decide +kernel
theorem dX9_isPerson_8 : decode cX9_isPerson 8 = .ok (.iaload, 1) := by decide +kernel
theorem dX9_isPerson_9 : decode cX9_isPerson 9 = .ok (.iconst 1, 1) := by decide +kernel
theorem dX9_isPerson_10 : decode cX9_isPerson 10 = .ok (.isub, 1) := by decide +kernel
theorem dX9_isPerson_11 : decode cX9_isPerson 11 = .ok (.i2l, 1) := by decide +kernel
theorem dX9_isPerson_12 : decode cX9_isPerson 12 = .ok (.invokestatic 100, 3) := by decide +kernel
theorem dX9_isPerson_15 : decode cX9_isPerson 15 = .ok (.ireturn, 1) := by decide +kernel
theorem dX9_isTold_0 : decode cX9_isTold 0 = .ok (.iload_n 1, 1) := by decide +kernel
theorem dX9_isTold_1 : decode cX9_isTold 1 = .ok (.i2l, 1) := by decide +kernel
theorem dX9_isTold_2 : decode cX9_isTold 2 = .ok (.lconst 0, 1) := by decide +kernel
theorem dX9_isTold_3 : decode cX9_isTold 3 = .ok (.aload_n 0, 1) := by decide +kernel
theorem dX9_isTold_4 : decode cX9_isTold 4 = .ok (.getfield 34, 3) := by decide +kernel
theorem dX9_isTold_7 : decode cX9_isTold 7 = .ok (.iconst 3, 1) := by decide +kernel
theorem dX9_isTold_8 : decode cX9_isTold 8 = .ok (.iaload, 1) := by decide +kernel
theorem dX9_isTold_9 : decode cX9_isTold 9 = .ok (.iconst 1, 1) := by decide +kernel
theorem dX9_isTold_10 : decode cX9_isTold 10 = .ok (.isub, 1) := by decide +kernel
theorem dX9_isTold_11 : decode cX9_isTold 11 = .ok (.i2l, 1) := by decide +kernel
theorem dX9_isTold_12 : decode cX9_isTold 12 = .ok (.invokestatic 100, 3) := by decide +kernel
theorem dX9_isTold_15 : decode cX9_isTold 15 = .ok (.ireturn, 1) := by decide +kernel
theorem dX9_isLetter_0 : decode cX9_isLetter 0 = .ok (.aload_n 0, 1) := by decide +kernel
theorem dX9_isLetter_1 : decode cX9_isLetter 1 = .ok (.iload_n 1, 1) := by decide +kernel
theorem dX9_isLetter_2 : decode cX9_isLetter 2 = .ok (.invokevirtual 270, 3) := by decide +kernel
theorem dX9_isLetter_5 : decode cX9_isLetter 5 = .ok (.ifCond .ne 31, 3) := by decide +kernel
theorem dX9_isLetter_8 : decode cX9_isLetter 8 = .ok (.aload_n 0, 1) := by decide +kernel
theorem dX9_isLetter_9 : decode cX9_isLetter 9 = .ok (.iload_n 1, 1) := by decide +kernel
theorem dX9_isLetter_10 : decode cX9_isLetter 10 = .ok (.bipush 24, 2) := by decide +kernel
theorem dX9_isLetter_12 : decode cX9_isLetter 12 = .ok (.isub, 1) := by decide +kernel
theorem dX9_isLetter_13 : decode cX9_isLetter 13 = .ok (.invokevirtual 270, 3) := by decide +kernel
theorem dX9_isLetter_16 : decode cX9_isLetter 16 = .ok (.ifCond .eq 24, 3) := by decide +kernel
theorem dX9_isLetter_40 : decode cX9_isLetter 40 = .ok (.iconst 0, 1) := by decide +kernel
theorem dX9_isLetter_41 : decode cX9_isLetter 41 = .ok (.ireturn, 1) := by decide +kernel
theorem dX9_isDay_0 : decode cX9_isDay 0 = .ok (.iload_n 1, 1) := by decide +kernel
theorem dX9_isDay_1 : decode cX9_isDay 1 = .ok (.i2l, 1) := by decide +kernel
theorem dX9_isDay_2 : decode cX9_isDay 2 = .ok (.lconst 0, 1) := by decide +kernel
theorem dX9_isDay_3 : decode cX9_isDay 3 = .ok (.aload_n 0, 1) := by decide +kernel
theorem dX9_isDay_4 : decode cX9_isDay 4 = .ok (.getfield 34, 3) := by decide +kernel
theorem dX9_isDay_7 : decode cX9_isDay 7 = .ok (.iconst 0, 1) := by decide +kernel
theorem dX9_isDay_8 : decode cX9_isDay 8 = .ok (.iaload, 1) := by decide +kernel
theorem dX9_isDay_9 : decode cX9_isDay 9 = .ok (.iconst 1, 1) := by decide +kernel
theorem dX9_isDay_10 : decode cX9_isDay 10 = .ok (.isub, 1) := by decide +kernel
theorem dX9_isDay_11 : decode cX9_isDay 11 = .ok (.i2l, 1) := by decide +kernel
theorem dX9_isDay_12 : decode cX9_isDay 12 = .ok (.invokestatic 100, 3) := by decide +kernel
theorem dX9_isDay_15 : decode cX9_isDay 15 = .ok (.ireturn, 1) := by decide +kernel
theorem dX9_person_0 : decode cX9_person 0 = .ok (.aload_n 0, 1) := by decide +kernel
theorem dX9_person_1 : decode cX9_person 1 = .ok (.iconst 0, 1) := by decide +kernel
theorem dX9_person_2 : decode cX9_person 2 = .ok (.putfield 95, 3) := by decide +kernel
theorem dX9_person_5 : decode cX9_person 5 = .ok (.aload_n 0, 1) := by decide +kernel
theorem dX9_person_6 : decode cX9_person 6 = .ok (.iload_n 1, 1) := by decide +kernel
theorem dX9_person_7 : decode cX9_person 7 = .ok (.invokevirtual 288, 3) := by decide +kernel
theorem dX9_person_10 : decode cX9_person 10 = .ok (.ifCond .eq 28, 3) := by decide +kernel
theorem dX9_person_38 : decode cX9_person 38 = .ok (.bipush (-2), 2) := by decide +kernel
theorem dX9_person_40 : decode cX9_person 40 = .ok (.ireturn, 1) := by decide +kernel
theorem dX9_hours_0 : decode cX9_hours 0 = .ok (.aload_n 0, 1) := by decide +kernel
theorem dX9_hours_1 : decode cX9_hours 1 = .ok (.iconst 0, 1) := by decide +kernel
theorem dX9_hours_2 : decode cX9_hours 2 = .ok (.putfield 95, 3) := by decide +kernel
theorem dX9_hours_5 : decode cX9_hours 5 = .ok (.aload_n 0, 1) := by decide +kernel
theorem dX9_hours_6 : decode cX9_hours 6 = .ok (.iload_n 1, 1) := by decide +kernel
theorem dX9_hours_7 : decode cX9_hours 7 = .ok (.invokevirtual 270, 3) := by decide +kernel
theorem dX9_hours_10 : decode cX9_hours 10 = .ok (.ifCond .eq 15, 3) := by decide +kernel
theorem dX9_hours_25 : decode cX9_hours 25 = .ok (.bipush (-2), 2) := by decide +kernel
theorem dX9_hours_27 : decode cX9_hours 27 = .ok (.ireturn, 1) := by decide +kernel
theorem dX9_law_0 : decode cX9_law 0 = .ok (.aload_n 0, 1) := by decide +kernel
theorem dX9_law_1 : decode cX9_law 1 = .ok (.iconst 0, 1) := by decide +kernel
theorem dX9_law_2 : decode cX9_law 2 = .ok (.putfield 95, 3) := by decide +kernel
theorem dX9_law_5 : decode cX9_law 5 = .ok (.aload_n 0, 1) := by decide +kernel
theorem dX9_law_6 : decode cX9_law 6 = .ok (.invokevirtual 295, 3) := by decide +kernel
theorem dX9_law_9 : decode cX9_law 9 = .ok (.ifCond .eq 15, 3) := by decide +kernel
theorem dX9_law_24 : decode cX9_law 24 = .ok (.bipush (-2), 2) := by decide +kernel
theorem dX9_law_26 : decode cX9_law 26 = .ok (.ireturn, 1) := by decide +kernel
theorem dX9_letter_0 : decode cX9_letter 0 = .ok (.aload_n 0, 1) := by decide +kernel
theorem dX9_letter_1 : decode cX9_letter 1 = .ok (.iconst 0, 1) := by decide +kernel
theorem dX9_letter_2 : decode cX9_letter 2 = .ok (.putfield 95, 3) := by decide +kernel
theorem dX9_letter_5 : decode cX9_letter 5 = .ok (.aload_n 0, 1) := by decide +kernel
theorem dX9_letter_6 : decode cX9_letter 6 = .ok (.iload_n 1, 1) := by decide +kernel
theorem dX9_letter_7 : decode cX9_letter 7 = .ok (.invokevirtual 399, 3) := by decide +kernel
theorem dX9_letter_10 : decode cX9_letter 10 = .ok (.ifCond .eq 15, 3) := by decide +kernel
theorem dX9_letter_25 : decode cX9_letter 25 = .ok (.bipush (-2), 2) := by decide +kernel
theorem dX9_letter_27 : decode cX9_letter 27 = .ok (.ireturn, 1) := by decide +kernel
theorem dX9_answered_0 : decode cX9_answered 0 = .ok (.aload_n 0, 1) := by decide +kernel
theorem dX9_answered_1 : decode cX9_answered 1 = .ok (.iconst 0, 1) := by decide +kernel
theorem dX9_answered_2 : decode cX9_answered 2 = .ok (.putfield 95, 3) := by decide +kernel
theorem dX9_answered_5 : decode cX9_answered 5 = .ok (.aload_n 0, 1) := by decide +kernel
theorem dX9_answered_6 : decode cX9_answered 6 = .ok (.iload_n 1, 1) := by decide +kernel
theorem dX9_answered_7 : decode cX9_answered 7 = .ok (.invokevirtual 399, 3) := by decide +kernel
theorem dX9_answered_10 : decode cX9_answered 10 = .ok (.ifCond .ne 6, 3) := by decide +kernel
theorem dX9_answered_13 : decode cX9_answered 13 = .ok (.bipush (-2), 2) := by decide +kernel
theorem dX9_answered_15 : decode cX9_answered 15 = .ok (.ireturn, 1) := by decide +kernel
theorem dX9_comes__0 : decode cX9_comes_ 0 = .ok (.aload_n 0, 1) := by decide +kernel
theorem dX9_comes__1 : decode cX9_comes_ 1 = .ok (.iconst 0, 1) := by decide +kernel
theorem dX9_comes__2 : decode cX9_comes_ 2 = .ok (.putfield 95, 3) := by decide +kernel
theorem dX9_comes__5 : decode cX9_comes_ 5 = .ok (.aload_n 0, 1) := by decide +kernel
theorem dX9_comes__6 : decode cX9_comes_ 6 = .ok (.iload_n 1, 1) := by decide +kernel
theorem dX9_comes__7 : decode cX9_comes_ 7 = .ok (.invokevirtual 399, 3) := by decide +kernel
theorem dX9_comes__10 : decode cX9_comes_ 10 = .ok (.ifCond .ne 6, 3) := by decide +kernel
theorem dX9_comes__13 : decode cX9_comes_ 13 = .ok (.bipush (-2), 2) := by decide +kernel
theorem dX9_comes__15 : decode cX9_comes_ 15 = .ok (.ireturn, 1) := by decide +kernel
theorem dX9_needs_0 : decode cX9_needs 0 = .ok (.aload_n 0, 1) := by decide +kernel
theorem dX9_needs_1 : decode cX9_needs 1 = .ok (.iconst 0, 1) := by decide +kernel
theorem dX9_needs_2 : decode cX9_needs 2 = .ok (.putfield 95, 3) := by decide +kernel
theorem dX9_needs_5 : decode cX9_needs 5 = .ok (.aload_n 0, 1) := by decide +kernel
theorem dX9_needs_6 : decode cX9_needs 6 = .ok (.iload_n 1, 1) := by decide +kernel
theorem dX9_needs_7 : decode cX9_needs 7 = .ok (.invokevirtual 399, 3) := by decide +kernel
theorem dX9_needs_10 : decode cX9_needs 10 = .ok (.ifCond .eq 11, 3) := by decide +kernel
theorem dX9_needs_21 : decode cX9_needs 21 = .ok (.bipush (-2), 2) := by decide +kernel
theorem dX9_needs_23 : decode cX9_needs 23 = .ok (.ireturn, 1) := by decide +kernel
theorem dX9_pile_0 : decode cX9_pile 0 = .ok (.aload_n 0, 1) := by decide +kernel
theorem dX9_pile_1 : decode cX9_pile 1 = .ok (.iconst 0, 1) := by decide +kernel
theorem dX9_pile_2 : decode cX9_pile 2 = .ok (.putfield 95, 3) := by decide +kernel
theorem dX9_pile_5 : decode cX9_pile 5 = .ok (.aload_n 0, 1) := by decide +kernel
theorem dX9_pile_6 : decode cX9_pile 6 = .ok (.iload_n 1, 1) := by decide +kernel
theorem dX9_pile_7 : decode cX9_pile 7 = .ok (.invokevirtual 288, 3) := by decide +kernel
theorem dX9_pile_10 : decode cX9_pile 10 = .ok (.ifCond .eq 11, 3) := by decide +kernel
theorem dX9_pile_21 : decode cX9_pile 21 = .ok (.ldc2_w 410, 3) := by decide +kernel
theorem dX9_pile_24 : decode cX9_pile 24 = .ok (.lreturn, 1) := by decide +kernel
theorem dX9_idle_0 : decode cX9_idle 0 = .ok (.aload_n 0, 1) := by decide +kernel
theorem dX9_idle_1 : decode cX9_idle 1 = .ok (.iconst 0, 1) := by decide +kernel
theorem dX9_idle_2 : decode cX9_idle 2 = .ok (.putfield 95, 3) := by decide +kernel
theorem dX9_idle_5 : decode cX9_idle 5 = .ok (.aload_n 0, 1) := by decide +kernel
theorem dX9_idle_6 : decode cX9_idle 6 = .ok (.iload_n 1, 1) := by decide +kernel
theorem dX9_idle_7 : decode cX9_idle 7 = .ok (.invokevirtual 288, 3) := by decide +kernel
theorem dX9_idle_10 : decode cX9_idle 10 = .ok (.ifCond .eq 11, 3) := by decide +kernel
theorem dX9_idle_21 : decode cX9_idle 21 = .ok (.bipush (-2), 2) := by decide +kernel
theorem dX9_idle_23 : decode cX9_idle 23 = .ok (.ireturn, 1) := by decide +kernel
theorem dX9_waits_0 : decode cX9_waits 0 = .ok (.aload_n 0, 1) := by decide +kernel
theorem dX9_waits_1 : decode cX9_waits 1 = .ok (.iconst 0, 1) := by decide +kernel
theorem dX9_waits_2 : decode cX9_waits 2 = .ok (.putfield 95, 3) := by decide +kernel
theorem dX9_waits_5 : decode cX9_waits 5 = .ok (.aload_n 0, 1) := by decide +kernel
theorem dX9_waits_6 : decode cX9_waits 6 = .ok (.iload_n 1, 1) := by decide +kernel
theorem dX9_waits_7 : decode cX9_waits 7 = .ok (.invokevirtual 288, 3) := by decide +kernel
theorem dX9_waits_10 : decode cX9_waits 10 = .ok (.ifCond .eq 11, 3) := by decide +kernel
theorem dX9_waits_21 : decode cX9_waits 21 = .ok (.bipush (-2), 2) := by decide +kernel
theorem dX9_waits_23 : decode cX9_waits 23 = .ok (.ireturn, 1) := by decide +kernel
theorem dX9_top_0 : decode cX9_top 0 = .ok (.aload_n 0, 1) := by decide +kernel
theorem dX9_top_1 : decode cX9_top 1 = .ok (.iconst 0, 1) := by decide +kernel
theorem dX9_top_2 : decode cX9_top 2 = .ok (.putfield 95, 3) := by decide +kernel
theorem dX9_top_5 : decode cX9_top 5 = .ok (.aload_n 0, 1) := by decide +kernel
theorem dX9_top_6 : decode cX9_top 6 = .ok (.iload_n 1, 1) := by decide +kernel
theorem dX9_top_7 : decode cX9_top 7 = .ok (.invokevirtual 288, 3) := by decide +kernel
theorem dX9_top_10 : decode cX9_top 10 = .ok (.ifCond .eq 11, 3) := by decide +kernel
theorem dX9_top_21 : decode cX9_top 21 = .ok (.bipush (-2), 2) := by decide +kernel
theorem dX9_top_23 : decode cX9_top 23 = .ok (.ireturn, 1) := by decide +kernel
theorem dX9_under_0 : decode cX9_under 0 = .ok (.aload_n 0, 1) := by decide +kernel
theorem dX9_under_1 : decode cX9_under 1 = .ok (.iconst 0, 1) := by decide +kernel
theorem dX9_under_2 : decode cX9_under 2 = .ok (.putfield 95, 3) := by decide +kernel
theorem dX9_under_5 : decode cX9_under 5 = .ok (.aload_n 0, 1) := by decide +kernel
theorem dX9_under_6 : decode cX9_under 6 = .ok (.iload_n 1, 1) := by decide +kernel
theorem dX9_under_7 : decode cX9_under 7 = .ok (.invokevirtual 399, 3) := by decide +kernel
theorem dX9_under_10 : decode cX9_under 10 = .ok (.ifCond .eq 11, 3) := by decide +kernel
theorem dX9_under_21 : decode cX9_under 21 = .ok (.bipush (-2), 2) := by decide +kernel
theorem dX9_under_23 : decode cX9_under 23 = .ok (.ireturn, 1) := by decide +kernel
theorem dX9_heard_0 : decode cX9_heard 0 = .ok (.aload_n 0, 1) := by decide +kernel
theorem dX9_heard_1 : decode cX9_heard 1 = .ok (.iconst 0, 1) := by decide +kernel
theorem dX9_heard_2 : decode cX9_heard 2 = .ok (.putfield 95, 3) := by decide +kernel
theorem dX9_heard_5 : decode cX9_heard 5 = .ok (.aload_n 0, 1) := by decide +kernel
theorem dX9_heard_6 : decode cX9_heard 6 = .ok (.iload_n 1, 1) := by decide +kernel
theorem dX9_heard_7 : decode cX9_heard 7 = .ok (.invokevirtual 288, 3) := by decide +kernel
theorem dX9_heard_10 : decode cX9_heard 10 = .ok (.ifCond .eq 16, 3) := by decide +kernel
theorem dX9_heard_26 : decode cX9_heard 26 = .ok (.bipush (-2), 2) := by decide +kernel
theorem dX9_heard_28 : decode cX9_heard 28 = .ok (.ireturn, 1) := by decide +kernel
theorem dX9_stuck_0 : decode cX9_stuck 0 = .ok (.aload_n 0, 1) := by decide +kernel
theorem dX9_stuck_1 : decode cX9_stuck 1 = .ok (.iconst 0, 1) := by decide +kernel
theorem dX9_stuck_2 : decode cX9_stuck 2 = .ok (.putfield 95, 3) := by decide +kernel
theorem dX9_stuck_5 : decode cX9_stuck 5 = .ok (.aload_n 0, 1) := by decide +kernel
theorem dX9_stuck_6 : decode cX9_stuck 6 = .ok (.invokevirtual 295, 3) := by decide +kernel
theorem dX9_stuck_9 : decode cX9_stuck 9 = .ok (.ifCond .ne 6, 3) := by decide +kernel
theorem dX9_stuck_12 : decode cX9_stuck 12 = .ok (.bipush (-2), 2) := by decide +kernel
theorem dX9_stuck_14 : decode cX9_stuck 14 = .ok (.ireturn, 1) := by decide +kernel
theorem dX9_ring_0 : decode cX9_ring 0 = .ok (.aload_n 0, 1) := by decide +kernel
theorem dX9_ring_1 : decode cX9_ring 1 = .ok (.iconst 0, 1) := by decide +kernel
theorem dX9_ring_2 : decode cX9_ring 2 = .ok (.putfield 95, 3) := by decide +kernel
theorem dX9_ring_5 : decode cX9_ring 5 = .ok (.aload_n 0, 1) := by decide +kernel
theorem dX9_ring_6 : decode cX9_ring 6 = .ok (.invokevirtual 295, 3) := by decide +kernel
theorem dX9_ring_9 : decode cX9_ring 9 = .ok (.ifCond .eq 13, 3) := by decide +kernel
theorem dX9_ring_22 : decode cX9_ring 22 = .ok (.bipush (-2), 2) := by decide +kernel
theorem dX9_ring_24 : decode cX9_ring 24 = .ok (.ireturn, 1) := by decide +kernel
theorem dX9_worth_0 : decode cX9_worth 0 = .ok (.aload_n 0, 1) := by decide +kernel
theorem dX9_worth_1 : decode cX9_worth 1 = .ok (.iconst 0, 1) := by decide +kernel
theorem dX9_worth_2 : decode cX9_worth 2 = .ok (.putfield 95, 3) := by decide +kernel
theorem dX9_worth_5 : decode cX9_worth 5 = .ok (.aload_n 0, 1) := by decide +kernel
theorem dX9_worth_6 : decode cX9_worth 6 = .ok (.invokevirtual 295, 3) := by decide +kernel
theorem dX9_worth_9 : decode cX9_worth 9 = .ok (.ifCond .ne 6, 3) := by decide +kernel
theorem dX9_worth_12 : decode cX9_worth 12 = .ok (.bipush (-2), 2) := by decide +kernel
theorem dX9_worth_14 : decode cX9_worth 14 = .ok (.ireturn, 1) := by decide +kernel
theorem dX9_late_0 : decode cX9_late 0 = .ok (.aload_n 0, 1) := by decide +kernel
theorem dX9_late_1 : decode cX9_late 1 = .ok (.iconst 0, 1) := by decide +kernel
theorem dX9_late_2 : decode cX9_late 2 = .ok (.putfield 95, 3) := by decide +kernel
theorem dX9_late_5 : decode cX9_late 5 = .ok (.aload_n 0, 1) := by decide +kernel
theorem dX9_late_6 : decode cX9_late 6 = .ok (.invokevirtual 295, 3) := by decide +kernel
theorem dX9_late_9 : decode cX9_late 9 = .ok (.ifCond .eq 13, 3) := by decide +kernel
theorem dX9_late_22 : decode cX9_late 22 = .ok (.bipush (-2), 2) := by decide +kernel
theorem dX9_late_24 : decode cX9_late 24 = .ok (.ireturn, 1) := by decide +kernel
theorem dX9_sum_0 : decode cX9_sum 0 = .ok (.aload_n 0, 1) := by decide +kernel
theorem dX9_sum_1 : decode cX9_sum 1 = .ok (.iconst 0, 1) := by decide +kernel
theorem dX9_sum_2 : decode cX9_sum 2 = .ok (.putfield 95, 3) := by decide +kernel
theorem dX9_sum_5 : decode cX9_sum 5 = .ok (.aload_n 0, 1) := by decide +kernel
theorem dX9_sum_6 : decode cX9_sum 6 = .ok (.invokevirtual 295, 3) := by decide +kernel
theorem dX9_sum_9 : decode cX9_sum 9 = .ok (.ifCond .eq 15, 3) := by decide +kernel
theorem dX9_sum_24 : decode cX9_sum 24 = .ok (.bipush (-2), 2) := by decide +kernel
theorem dX9_sum_26 : decode cX9_sum 26 = .ok (.ireturn, 1) := by decide +kernel
theorem dX9_by_0 : decode cX9_by 0 = .ok (.aload_n 0, 1) := by decide +kernel
theorem dX9_by_1 : decode cX9_by 1 = .ok (.iconst 0, 1) := by decide +kernel
theorem dX9_by_2 : decode cX9_by 2 = .ok (.putfield 95, 3) := by decide +kernel
theorem dX9_by_5 : decode cX9_by 5 = .ok (.aload_n 0, 1) := by decide +kernel
theorem dX9_by_6 : decode cX9_by 6 = .ok (.invokevirtual 295, 3) := by decide +kernel
theorem dX9_by_9 : decode cX9_by 9 = .ok (.ifCond .eq 34, 3) := by decide +kernel
theorem dX9_by_43 : decode cX9_by 43 = .ok (.bipush (-2), 2) := by decide +kernel
theorem dX9_by_45 : decode cX9_by 45 = .ok (.ireturn, 1) := by decide +kernel
theorem dX9_best_0 : decode cX9_best 0 = .ok (.aload_n 0, 1) := by decide +kernel
theorem dX9_best_1 : decode cX9_best 1 = .ok (.iconst 0, 1) := by decide +kernel
theorem dX9_best_2 : decode cX9_best 2 = .ok (.putfield 95, 3) := by decide +kernel
theorem dX9_best_5 : decode cX9_best 5 = .ok (.aload_n 0, 1) := by decide +kernel
theorem dX9_best_6 : decode cX9_best 6 = .ok (.invokevirtual 295, 3) := by decide +kernel
theorem dX9_best_9 : decode cX9_best 9 = .ok (.ifCond .ne 6, 3) := by decide +kernel
theorem dX9_best_12 : decode cX9_best 12 = .ok (.bipush (-2), 2) := by decide +kernel
theorem dX9_best_14 : decode cX9_best 14 = .ok (.ireturn, 1) := by decide +kernel
theorem dX9_whyNotOrder_0 : decode cX9_whyNotOrder 0 = .ok (.aload_n 0, 1) := by decide +kernel
theorem dX9_whyNotOrder_1 : decode cX9_whyNotOrder 1 = .ok (.iload_n 1, 1) := by decide +kernel
theorem dX9_whyNotOrder_2 : decode cX9_whyNotOrder 2 = .ok (.invokevirtual 288, 3) := by decide +kernel
theorem dX9_whyNotOrder_5 : decode cX9_whyNotOrder 5 = .ok (.ifCond .eq 11, 3) := by decide +kernel
theorem dX9_whyNotOrder_16 : decode cX9_whyNotOrder 16 = .ok (.bipush (-2), 2) := by decide +kernel
theorem dX9_whyNotOrder_18 : decode cX9_whyNotOrder 18 = .ok (.ireturn, 1) := by decide +kernel
theorem dX9_order_0 : decode cX9_order 0 = .ok (.aload_n 0, 1) := by decide +kernel
theorem dX9_order_1 : decode cX9_order 1 = .ok (.iconst 0, 1) := by decide +kernel
theorem dX9_order_2 : decode cX9_order 2 = .ok (.putfield 95, 3) := by decide +kernel
theorem dX9_order_5 : decode cX9_order 5 = .ok (.aload_n 0, 1) := by decide +kernel
theorem dX9_order_6 : decode cX9_order 6 = .ok (.iload_n 1, 1) := by decide +kernel
theorem dX9_order_7 : decode cX9_order 7 = .ok (.iload_n 2, 1) := by decide +kernel
theorem dX9_order_8 : decode cX9_order 8 = .ok (.invokevirtual 458, 3) := by decide +kernel
theorem dX9_order_11 : decode cX9_order 11 = .ok (.istore_n 3, 1) := by decide +kernel
theorem dX9_order_12 : decode cX9_order 12 = .ok (.iload_n 3, 1) := by decide +kernel
theorem dX9_order_13 : decode cX9_order 13 = .ok (.ifCond .eq 7, 3) := by decide +kernel
theorem dX9_order_16 : decode cX9_order 16 = .ok (.iload_n 3, 1) := by decide +kernel
theorem dX9_order_17 : decode cX9_order 17 = .ok (.goto 7, 3) := by decide +kernel
theorem dX9_order_24 : decode cX9_order 24 = .ok (.ireturn, 1) := by decide +kernel
theorem dX9_place_0 : decode cX9_place 0 = .ok (.aload_n 0, 1) := by decide +kernel
theorem dX9_place_1 : decode cX9_place 1 = .ok (.iconst 0, 1) := by decide +kernel
theorem dX9_place_2 : decode cX9_place 2 = .ok (.putfield 95, 3) := by decide +kernel
theorem dX9_place_5 : decode cX9_place 5 = .ok (.aload_n 0, 1) := by decide +kernel
theorem dX9_place_6 : decode cX9_place 6 = .ok (.iload_n 1, 1) := by decide +kernel
theorem dX9_place_7 : decode cX9_place 7 = .ok (.iload_n 2, 1) := by decide +kernel
theorem dX9_place_8 : decode cX9_place 8 = .ok (.invokevirtual 458, 3) := by decide +kernel
theorem dX9_place_11 : decode cX9_place 11 = .ok (.istore 4, 2) := by decide +kernel
theorem dX9_place_13 : decode cX9_place 13 = .ok (.iload 4, 2) := by decide +kernel
theorem dX9_place_15 : decode cX9_place 15 = .ok (.ifCond .eq 8, 3) := by decide +kernel
theorem dX9_place_18 : decode cX9_place 18 = .ok (.iload 4, 2) := by decide +kernel
theorem dX9_place_20 : decode cX9_place 20 = .ok (.goto 29, 3) := by decide +kernel
theorem dX9_place_49 : decode cX9_place 49 = .ok (.ireturn, 1) := by decide +kernel
theorem dX9_worst_0 : decode cX9_worst 0 = .ok (.aload_n 0, 1) := by decide +kernel
theorem dX9_worst_1 : decode cX9_worst 1 = .ok (.iconst 0, 1) := by decide +kernel
theorem dX9_worst_2 : decode cX9_worst 2 = .ok (.putfield 95, 3) := by decide +kernel
theorem dX9_worst_5 : decode cX9_worst 5 = .ok (.aload_n 0, 1) := by decide +kernel
theorem dX9_worst_6 : decode cX9_worst 6 = .ok (.iload_n 1, 1) := by decide +kernel
theorem dX9_worst_7 : decode cX9_worst 7 = .ok (.iload_n 2, 1) := by decide +kernel
theorem dX9_worst_8 : decode cX9_worst 8 = .ok (.invokevirtual 458, 3) := by decide +kernel
theorem dX9_worst_11 : decode cX9_worst 11 = .ok (.istore_n 3, 1) := by decide +kernel
theorem dX9_worst_12 : decode cX9_worst 12 = .ok (.iload_n 3, 1) := by decide +kernel
theorem dX9_worst_13 : decode cX9_worst 13 = .ok (.ifCond .eq 7, 3) := by decide +kernel
theorem dX9_worst_16 : decode cX9_worst 16 = .ok (.iload_n 3, 1) := by decide +kernel
theorem dX9_worst_17 : decode cX9_worst 17 = .ok (.goto 7, 3) := by decide +kernel
theorem dX9_worst_24 : decode cX9_worst 24 = .ok (.ireturn, 1) := by decide +kernel
theorem dX9_longest_0 : decode cX9_longest 0 = .ok (.aload_n 0, 1) := by decide +kernel
theorem dX9_longest_1 : decode cX9_longest 1 = .ok (.iconst 0, 1) := by decide +kernel
theorem dX9_longest_2 : decode cX9_longest 2 = .ok (.putfield 95, 3) := by decide +kernel
theorem dX9_longest_5 : decode cX9_longest 5 = .ok (.aload_n 0, 1) := by decide +kernel
theorem dX9_longest_6 : decode cX9_longest 6 = .ok (.iload_n 1, 1) := by decide +kernel
theorem dX9_longest_7 : decode cX9_longest 7 = .ok (.invokevirtual 270, 3) := by decide +kernel
theorem dX9_longest_10 : decode cX9_longest 10 = .ok (.ifCond .ne 6, 3) := by decide +kernel
theorem dX9_longest_13 : decode cX9_longest 13 = .ok (.bipush (-2), 2) := by decide +kernel
theorem dX9_longest_15 : decode cX9_longest 15 = .ok (.ireturn, 1) := by decide +kernel
theorem dX9_just_0 : decode cX9_just 0 = .ok (.aload_n 0, 1) := by decide +kernel
theorem dX9_just_1 : decode cX9_just 1 = .ok (.iconst 0, 1) := by decide +kernel
theorem dX9_just_2 : decode cX9_just 2 = .ok (.putfield 95, 3) := by decide +kernel
theorem dX9_just_5 : decode cX9_just 5 = .ok (.aload_n 0, 1) := by decide +kernel
theorem dX9_just_6 : decode cX9_just 6 = .ok (.iload_n 1, 1) := by decide +kernel
theorem dX9_just_7 : decode cX9_just 7 = .ok (.invokevirtual 270, 3) := by decide +kernel
theorem dX9_just_10 : decode cX9_just 10 = .ok (.ifCond .eq 21, 3) := by decide +kernel
theorem dX9_just_31 : decode cX9_just 31 = .ok (.bipush (-2), 2) := by decide +kernel
theorem dX9_just_33 : decode cX9_just 33 = .ok (.ireturn, 1) := by decide +kernel
theorem dX9_isLetterMore_0 : decode cX9_isLetterMore 0 = .ok (.aload_n 0, 1) := by decide +kernel
theorem dX9_isLetterMore_1 : decode cX9_isLetterMore 1 = .ok (.iload_n 1, 1) := by decide +kernel
theorem dX9_isLetterMore_2 : decode cX9_isLetterMore 2 = .ok (.invokevirtual 288, 3) := by decide +kernel
theorem dX9_isLetterMore_5 : decode cX9_isLetterMore 5 = .ok (.ifCond .eq 28, 3) := by decide +kernel
theorem dX9_isLetterMore_33 : decode cX9_isLetterMore 33 = .ok (.iconst 0, 1) := by decide +kernel
theorem dX9_isLetterMore_34 : decode cX9_isLetterMore 34 = .ok (.ireturn, 1) := by decide +kernel
theorem dX9_stop_0 : decode cX9_stop 0 = .ok (.aload_n 0, 1) := by decide +kernel
theorem dX9_stop_1 : decode cX9_stop 1 = .ok (.iconst 0, 1) := by decide +kernel
theorem dX9_stop_2 : decode cX9_stop 2 = .ok (.putfield 95, 3) := by decide +kernel
theorem dX9_stop_5 : decode cX9_stop 5 = .ok (.aload_n 0, 1) := by decide +kernel
theorem dX9_stop_6 : decode cX9_stop 6 = .ok (.iload_n 1, 1) := by decide +kernel
theorem dX9_stop_7 : decode cX9_stop 7 = .ok (.iload_n 2, 1) := by decide +kernel
theorem dX9_stop_8 : decode cX9_stop 8 = .ok (.iload_n 3, 1) := by decide +kernel
theorem dX9_stop_9 : decode cX9_stop 9 = .ok (.invokevirtual 464, 3) := by decide +kernel
theorem dX9_stop_12 : decode cX9_stop 12 = .ok (.ifCond .eq 29, 3) := by decide +kernel
theorem dX9_stop_41 : decode cX9_stop 41 = .ok (.bipush (-2), 2) := by decide +kernel
theorem dX9_stop_43 : decode cX9_stop 43 = .ok (.ireturn, 1) := by decide +kernel
theorem dX9_hold_0 : decode cX9_hold 0 = .ok (.aload_n 0, 1) := by decide +kernel
theorem dX9_hold_1 : decode cX9_hold 1 = .ok (.iconst 0, 1) := by decide +kernel
theorem dX9_hold_2 : decode cX9_hold 2 = .ok (.putfield 95, 3) := by decide +kernel
theorem dX9_hold_5 : decode cX9_hold 5 = .ok (.aload_n 0, 1) := by decide +kernel
theorem dX9_hold_6 : decode cX9_hold 6 = .ok (.iload_n 1, 1) := by decide +kernel
theorem dX9_hold_7 : decode cX9_hold 7 = .ok (.iload_n 2, 1) := by decide +kernel
theorem dX9_hold_8 : decode cX9_hold 8 = .ok (.iload_n 3, 1) := by decide +kernel
theorem dX9_hold_9 : decode cX9_hold 9 = .ok (.invokevirtual 464, 3) := by decide +kernel
theorem dX9_hold_12 : decode cX9_hold 12 = .ok (.ifCond .eq 21, 3) := by decide +kernel
theorem dX9_hold_33 : decode cX9_hold 33 = .ok (.bipush (-2), 2) := by decide +kernel
theorem dX9_hold_35 : decode cX9_hold 35 = .ok (.ireturn, 1) := by decide +kernel
theorem dX9_visit_0 : decode cX9_visit 0 = .ok (.aload_n 0, 1) := by decide +kernel
theorem dX9_visit_1 : decode cX9_visit 1 = .ok (.iconst 0, 1) := by decide +kernel
theorem dX9_visit_2 : decode cX9_visit 2 = .ok (.putfield 95, 3) := by decide +kernel
theorem dX9_visit_5 : decode cX9_visit 5 = .ok (.aload_n 0, 1) := by decide +kernel
theorem dX9_visit_6 : decode cX9_visit 6 = .ok (.iload_n 1, 1) := by decide +kernel
theorem dX9_visit_7 : decode cX9_visit 7 = .ok (.invokevirtual 270, 3) := by decide +kernel
theorem dX9_visit_10 : decode cX9_visit 10 = .ok (.ifCond .eq 28, 3) := by decide +kernel
theorem dX9_visit_38 : decode cX9_visit 38 = .ok (.bipush (-2), 2) := by decide +kernel
theorem dX9_visit_40 : decode cX9_visit 40 = .ok (.ireturn, 1) := by decide +kernel
theorem dX9_pays_0 : decode cX9_pays 0 = .ok (.aload_n 0, 1) := by decide +kernel
theorem dX9_pays_1 : decode cX9_pays 1 = .ok (.iconst 0, 1) := by decide +kernel
theorem dX9_pays_2 : decode cX9_pays 2 = .ok (.putfield 95, 3) := by decide +kernel
theorem dX9_pays_5 : decode cX9_pays 5 = .ok (.aload_n 0, 1) := by decide +kernel
theorem dX9_pays_6 : decode cX9_pays 6 = .ok (.iload_n 1, 1) := by decide +kernel
theorem dX9_pays_7 : decode cX9_pays 7 = .ok (.invokevirtual 270, 3) := by decide +kernel
theorem dX9_pays_10 : decode cX9_pays 10 = .ok (.ifCond .eq 19, 3) := by decide +kernel
theorem dX9_pays_29 : decode cX9_pays 29 = .ok (.bipush (-2), 2) := by decide +kernel
theorem dX9_pays_31 : decode cX9_pays 31 = .ok (.ireturn, 1) := by decide +kernel
theorem dX9_instead_0 : decode cX9_instead 0 = .ok (.aload_n 0, 1) := by decide +kernel
theorem dX9_instead_1 : decode cX9_instead 1 = .ok (.iconst 0, 1) := by decide +kernel
theorem dX9_instead_2 : decode cX9_instead 2 = .ok (.putfield 95, 3) := by decide +kernel
theorem dX9_instead_5 : decode cX9_instead 5 = .ok (.aload_n 0, 1) := by decide +kernel
theorem dX9_instead_6 : decode cX9_instead 6 = .ok (.invokevirtual 295, 3) := by decide +kernel
theorem dX9_instead_9 : decode cX9_instead 9 = .ok (.ifCond .eq 10, 3) := by decide +kernel
theorem dX9_instead_19 : decode cX9_instead 19 = .ok (.bipush (-2), 2) := by decide +kernel
theorem dX9_instead_21 : decode cX9_instead 21 = .ok (.ireturn, 1) := by decide +kernel
theorem dX9_burn_0 : decode cX9_burn 0 = .ok (.aload_n 0, 1) := by decide +kernel
theorem dX9_burn_1 : decode cX9_burn 1 = .ok (.iconst 0, 1) := by decide +kernel
theorem dX9_burn_2 : decode cX9_burn 2 = .ok (.putfield 95, 3) := by decide +kernel
theorem dX9_burn_5 : decode cX9_burn 5 = .ok (.aload_n 0, 1) := by decide +kernel
theorem dX9_burn_6 : decode cX9_burn 6 = .ok (.iload_n 1, 1) := by decide +kernel
theorem dX9_burn_7 : decode cX9_burn 7 = .ok (.invokevirtual 288, 3) := by decide +kernel
theorem dX9_burn_10 : decode cX9_burn 10 = .ok (.ifCond .eq 11, 3) := by decide +kernel
theorem dX9_burn_21 : decode cX9_burn 21 = .ok (.bipush (-2), 2) := by decide +kernel
theorem dX9_burn_23 : decode cX9_burn 23 = .ok (.ireturn, 1) := by decide +kernel
theorem dX9_untie_0 : decode cX9_untie 0 = .ok (.aload_n 0, 1) := by decide +kernel
theorem dX9_untie_1 : decode cX9_untie 1 = .ok (.iconst 0, 1) := by decide +kernel
theorem dX9_untie_2 : decode cX9_untie 2 = .ok (.putfield 95, 3) := by decide +kernel
theorem dX9_untie_5 : decode cX9_untie 5 = .ok (.aload_n 0, 1) := by decide +kernel
theorem dX9_untie_6 : decode cX9_untie 6 = .ok (.invokevirtual 295, 3) := by decide +kernel
theorem dX9_untie_9 : decode cX9_untie 9 = .ok (.ifCond .eq 13, 3) := by decide +kernel
theorem dX9_untie_22 : decode cX9_untie 22 = .ok (.bipush (-2), 2) := by decide +kernel
theorem dX9_untie_24 : decode cX9_untie 24 = .ok (.ireturn, 1) := by decide +kernel
theorem dX9_chance_0 : decode cX9_chance 0 = .ok (.aload_n 0, 1) := by decide +kernel
theorem dX9_chance_1 : decode cX9_chance 1 = .ok (.iconst 0, 1) := by decide +kernel
theorem dX9_chance_2 : decode cX9_chance 2 = .ok (.putfield 95, 3) := by decide +kernel
theorem dX9_chance_5 : decode cX9_chance 5 = .ok (.aload_n 0, 1) := by decide +kernel
theorem dX9_chance_6 : decode cX9_chance 6 = .ok (.iload_n 1, 1) := by decide +kernel
theorem dX9_chance_7 : decode cX9_chance 7 = .ok (.invokevirtual 270, 3) := by decide +kernel
theorem dX9_chance_10 : decode cX9_chance 10 = .ok (.ifCond .eq 33, 3) := by decide +kernel
theorem dX9_chance_43 : decode cX9_chance 43 = .ok (.bipush (-2), 2) := by decide +kernel
theorem dX9_chance_45 : decode cX9_chance 45 = .ok (.ireturn, 1) := by decide +kernel
theorem dX9_judge_0 : decode cX9_judge 0 = .ok (.aload_n 0, 1) := by decide +kernel
theorem dX9_judge_1 : decode cX9_judge 1 = .ok (.iconst 0, 1) := by decide +kernel
theorem dX9_judge_2 : decode cX9_judge 2 = .ok (.putfield 95, 3) := by decide +kernel
theorem dX9_judge_5 : decode cX9_judge 5 = .ok (.iload_n 1, 1) := by decide +kernel
theorem dX9_judge_6 : decode cX9_judge 6 = .ok (.invokestatic 104, 3) := by decide +kernel
theorem dX9_judge_9 : decode cX9_judge 9 = .ok (.ifCond .eq 10, 3) := by decide +kernel
theorem dX9_judge_12 : decode cX9_judge 12 = .ok (.aload_n 0, 1) := by decide +kernel
theorem dX9_judge_13 : decode cX9_judge 13 = .ok (.invokevirtual 295, 3) := by decide +kernel
theorem dX9_judge_16 : decode cX9_judge 16 = .ok (.ifCond .ne 6, 3) := by decide +kernel
theorem dX9_judge_19 : decode cX9_judge 19 = .ok (.bipush (-2), 2) := by decide +kernel
theorem dX9_judge_21 : decode cX9_judge 21 = .ok (.ireturn, 1) := by decide +kernel
theorem dX9_count_0 : decode cX9_count 0 = .ok (.aload_n 0, 1) := by decide +kernel
theorem dX9_count_1 : decode cX9_count 1 = .ok (.iconst 0, 1) := by decide +kernel
theorem dX9_count_2 : decode cX9_count 2 = .ok (.putfield 95, 3) := by decide +kernel
theorem dX9_count_5 : decode cX9_count 5 = .ok (.iconst 0, 1) := by decide +kernel
theorem dX9_count_6 : decode cX9_count 6 = .ok (.istore_n 2, 1) := by decide +kernel
theorem dX9_count_7 : decode cX9_count 7 = .ok (.iload_n 1, 1) := by decide +kernel
theorem dX9_count_8 : decode cX9_count 8 = .ok (.tableswitch 150 0 8 #[52, 59, 66, 73, 80, 87, 94, 99, 117], 52) := by decide +kernel
theorem dX9_count_60 : decode cX9_count 60 = .ok (.aload_n 0, 1) := by decide +kernel
theorem dX9_count_61 : decode cX9_count 61 = .ok (.getfield 34, 3) := by decide +kernel
theorem dX9_count_64 : decode cX9_count 64 = .ok (.iconst 2, 1) := by decide +kernel
theorem dX9_count_65 : decode cX9_count 65 = .ok (.iaload, 1) := by decide +kernel
theorem dX9_count_66 : decode cX9_count 66 = .ok (.ireturn, 1) := by decide +kernel
theorem dX9_count_67 : decode cX9_count 67 = .ok (.aload_n 0, 1) := by decide +kernel
theorem dX9_count_68 : decode cX9_count 68 = .ok (.getfield 34, 3) := by decide +kernel
theorem dX9_count_71 : decode cX9_count 71 = .ok (.iconst 3, 1) := by decide +kernel
theorem dX9_count_72 : decode cX9_count 72 = .ok (.iaload, 1) := by decide +kernel
theorem dX9_count_73 : decode cX9_count 73 = .ok (.ireturn, 1) := by decide +kernel
theorem dX9_count_74 : decode cX9_count 74 = .ok (.aload_n 0, 1) := by decide +kernel
theorem dX9_count_75 : decode cX9_count 75 = .ok (.getfield 34, 3) := by decide +kernel
theorem dX9_count_78 : decode cX9_count 78 = .ok (.iconst 0, 1) := by decide +kernel
theorem dX9_count_79 : decode cX9_count 79 = .ok (.iaload, 1) := by decide +kernel
theorem dX9_count_80 : decode cX9_count 80 = .ok (.ireturn, 1) := by decide +kernel
theorem dX9_count_81 : decode cX9_count 81 = .ok (.aload_n 0, 1) := by decide +kernel
theorem dX9_count_82 : decode cX9_count 82 = .ok (.getfield 34, 3) := by decide +kernel
theorem dX9_count_85 : decode cX9_count 85 = .ok (.iconst 1, 1) := by decide +kernel
theorem dX9_count_86 : decode cX9_count 86 = .ok (.iaload, 1) := by decide +kernel
theorem dX9_count_87 : decode cX9_count 87 = .ok (.ireturn, 1) := by decide +kernel
theorem dX9_count_88 : decode cX9_count 88 = .ok (.aload_n 0, 1) := by decide +kernel
theorem dX9_count_89 : decode cX9_count 89 = .ok (.getfield 34, 3) := by decide +kernel
theorem dX9_count_92 : decode cX9_count 92 = .ok (.iconst 4, 1) := by decide +kernel
theorem dX9_count_93 : decode cX9_count 93 = .ok (.iaload, 1) := by decide +kernel
theorem dX9_count_94 : decode cX9_count 94 = .ok (.ireturn, 1) := by decide +kernel
theorem dX9_count_95 : decode cX9_count 95 = .ok (.aload_n 0, 1) := by decide +kernel
theorem dX9_count_96 : decode cX9_count 96 = .ok (.getfield 31, 3) := by decide +kernel
theorem dX9_count_99 : decode cX9_count 99 = .ok (.iconst 0, 1) := by decide +kernel
theorem dX9_count_100 : decode cX9_count 100 = .ok (.iaload, 1) := by decide +kernel
theorem dX9_count_101 : decode cX9_count 101 = .ok (.ireturn, 1) := by decide +kernel
theorem dX9_count_102 : decode cX9_count 102 = .ok (.aload_n 0, 1) := by decide +kernel
theorem dX9_count_103 : decode cX9_count 103 = .ok (.getfield 112, 3) := by decide +kernel
theorem dX9_count_106 : decode cX9_count 106 = .ok (.ireturn, 1) := by decide +kernel
theorem dX9_count_107 : decode cX9_count 107 = .ok (.aload_n 0, 1) := by decide +kernel
theorem dX9_count_108 : decode cX9_count 108 = .ok (.invokevirtual 295, 3) := by decide +kernel
theorem dX9_count_111 : decode cX9_count 111 = .ok (.ifCond .eq 12, 3) := by decide +kernel
theorem dX9_count_123 : decode cX9_count 123 = .ok (.iconst 0, 1) := by decide +kernel
theorem dX9_count_124 : decode cX9_count 124 = .ok (.ireturn, 1) := by decide +kernel
theorem dX9_count_125 : decode cX9_count 125 = .ok (.iconst 0, 1) := by decide +kernel
theorem dX9_count_126 : decode cX9_count 126 = .ok (.istore_n 3, 1) := by decide +kernel
theorem dX9_count_127 : decode cX9_count 127 = .ok (.iload_n 3, 1) := by decide +kernel
theorem dX9_count_128 : decode cX9_count 128 = .ok (.iconst 4, 1) := by decide +kernel
theorem dX9_count_129 : decode cX9_count 129 = .ok (.if_icmp .ge 27, 3) := by decide +kernel
theorem dX9_count_132 : decode cX9_count 132 = .ok (.iload_n 2, 1) := by decide +kernel
theorem dX9_count_133 : decode cX9_count 133 = .ok (.aload_n 0, 1) := by decide +kernel
