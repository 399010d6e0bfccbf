theorem dX4_inTime_1 : decode cX4_inTime 1 = .ok (.iload_n 2, 1) := by decide +kernel
theorem dX4_inTime_2 : decode cX4_inTime 2 = .ok (.aload_n 1, 1) := by decide +kernel
theorem dX4_inTime_3 : decode cX4_inTime 3 = .ok (.getfield 210, 3) := by decide +kernel
theorem dX4_inTime_6 : decode cX4_inTime 6 = .ok (.iload_n 2, 1) := by decide +kernel
theorem dX4_inTime_7 : decode cX4_inTime 7 = .ok (.iaload, 1) := by decide +kernel
theorem dX4_inTime_8 : decode cX4_inTime 8 = .ok (.iconst (-1), 1) := by decide +kernel
theorem dX4_inTime_9 : decode cX4_inTime 9 = .ok (.if_icmp .ne 10, 3) := by decide +kernel
theorem dX4_inTime_12 : decode cX4_inTime 12 = .ok (.aload_n 1, 1) := by decide +kernel
theorem dX4_inTime_13 : decode cX4_inTime 13 = .ok (.getfield 70, 3) := by decide +kernel
theorem dX4_inTime_16 : decode cX4_inTime 16 = .ok (.goto 9, 3) := by decide +kernel
theorem dX4_inTime_19 : decode cX4_inTime 19 = .ok (.aload_n 1, 1) := by decide +kernel
theorem dX4_inTime_20 : decode cX4_inTime 20 = .ok (.getfield 210, 3) := by decide +kernel
theorem dX4_inTime_23 : decode cX4_inTime 23 = .ok (.iload_n 2, 1) := by decide +kernel
theorem dX4_inTime_24 : decode cX4_inTime 24 = .ok (.iaload, 1) := by decide +kernel
theorem dX4_inTime_25 : decode cX4_inTime 25 = .ok (.invokevirtual 213, 3) := by decide +kernel
theorem dX4_inTime_28 : decode cX4_inTime 28 = .ok (.ireturn, 1) := by decide +kernel
theorem dX4_worthIn_0 : decode cX4_worthIn 0 = .ok (.iconst 0, 1) := by decide +kernel
theorem dX4_worthIn_1 : decode cX4_worthIn 1 = .ok (.istore_n 2, 1) := by decide +kernel
theorem dX4_worthIn_2 : decode cX4_worthIn 2 = .ok (.iconst 0, 1) := by decide +kernel
theorem dX4_worthIn_3 : decode cX4_worthIn 3 = .ok (.istore_n 3, 1) := by decide +kernel
theorem dX4_worthIn_4 : decode cX4_worthIn 4 = .ok (.iload_n 3, 1) := by decide +kernel
theorem dX4_worthIn_5 : decode cX4_worthIn 5 = .ok (.aload_n 1, 1) := by decide +kernel
theorem dX4_worthIn_6 : decode cX4_worthIn 6 = .ok (.getfield 115, 3) := by decide +kernel
theorem dX4_worthIn_9 : decode cX4_worthIn 9 = .ok (.if_icmp .ge 31, 3) := by decide +kernel
theorem dX4_worthIn_12 : decode cX4_worthIn 12 = .ok (.iload_n 2, 1) := by decide +kernel
theorem dX4_worthIn_13 : decode cX4_worthIn 13 = .ok (.aload_n 0, 1) := by decide +kernel
theorem dX4_worthIn_14 : decode cX4_worthIn 14 = .ok (.aload_n 1, 1) := by decide +kernel
theorem dX4_worthIn_15 : decode cX4_worthIn 15 = .ok (.iload_n 3, 1) := by decide +kernel
theorem dX4_worthIn_16 : decode cX4_worthIn 16 = .ok (.invokevirtual 217, 3) := by decide +kernel
theorem dX4_worthIn_19 : decode cX4_worthIn 19 = .ok (.ifCond .eq 12, 3) := by decide +kernel
theorem dX4_worthIn_22 : decode cX4_worthIn 22 = .ok (.aload_n 1, 1) := by decide +kernel
theorem dX4_worthIn_23 : decode cX4_worthIn 23 = .ok (.getfield 221, 3) := by decide +kernel
theorem dX4_worthIn_26 : decode cX4_worthIn 26 = .ok (.iload_n 3, 1) := by decide +kernel
theorem dX4_worthIn_27 : decode cX4_worthIn 27 = .ok (.iaload, 1) := by decide +kernel
theorem dX4_worthIn_28 : decode cX4_worthIn 28 = .ok (.goto 4, 3) := by decide +kernel
theorem dX4_worthIn_31 : decode cX4_worthIn 31 = .ok (.iconst 0, 1) := by decide +kernel
theorem dX4_worthIn_32 : decode cX4_worthIn 32 = .ok (.iadd, 1) := by decide +kernel
theorem dX4_worthIn_33 : decode cX4_worthIn 33 = .ok (.istore_n 2, 1) := by decide +kernel
theorem dX4_worthIn_34 : decode cX4_worthIn 34 = .ok (.iinc 3 1, 3) := by decide +kernel
theorem dX4_worthIn_37 : decode cX4_worthIn 37 = .ok (.goto (-33), 3) := by decide +kernel
theorem dX4_worthIn_40 : decode cX4_worthIn 40 = .ok (.iload_n 2, 1) := by decide +kernel
theorem dX4_worthIn_41 : decode cX4_worthIn 41 = .ok (.ireturn, 1) := by decide +kernel
theorem dX4_lateIn_0 : decode cX4_lateIn 0 = .ok (.iconst 0, 1) := by decide +kernel
theorem dX4_lateIn_1 : decode cX4_lateIn 1 = .ok (.istore_n 2, 1) := by decide +kernel
theorem dX4_lateIn_2 : decode cX4_lateIn 2 = .ok (.iconst 0, 1) := by decide +kernel
theorem dX4_lateIn_3 : decode cX4_lateIn 3 = .ok (.istore_n 3, 1) := by decide +kernel
theorem dX4_lateIn_4 : decode cX4_lateIn 4 = .ok (.iload_n 3, 1) := by decide +kernel
theorem dX4_lateIn_5 : decode cX4_lateIn 5 = .ok (.aload_n 1, 1) := by decide +kernel
theorem dX4_lateIn_6 : decode cX4_lateIn 6 = .ok (.getfield 115, 3) := by decide +kernel
theorem dX4_lateIn_9 : decode cX4_lateIn 9 = .ok (.if_icmp .ge 26, 3) := by decide +kernel
theorem dX4_lateIn_12 : decode cX4_lateIn 12 = .ok (.iload_n 2, 1) := by decide +kernel
theorem dX4_lateIn_13 : decode cX4_lateIn 13 = .ok (.aload_n 0, 1) := by decide +kernel
theorem dX4_lateIn_14 : decode cX4_lateIn 14 = .ok (.aload_n 1, 1) := by decide +kernel
theorem dX4_lateIn_15 : decode cX4_lateIn 15 = .ok (.iload_n 3, 1) := by decide +kernel
theorem dX4_lateIn_16 : decode cX4_lateIn 16 = .ok (.invokevirtual 217, 3) := by decide +kernel
theorem dX4_lateIn_19 : decode cX4_lateIn 19 = .ok (.ifCond .eq 7, 3) := by decide +kernel
theorem dX4_lateIn_22 : decode cX4_lateIn 22 = .ok (.iconst 0, 1) := by decide +kernel
theorem dX4_lateIn_23 : decode cX4_lateIn 23 = .ok (.goto 4, 3) := by decide +kernel
theorem dX4_lateIn_26 : decode cX4_lateIn 26 = .ok (.iconst 1, 1) := by decide +kernel
theorem dX4_lateIn_27 : decode cX4_lateIn 27 = .ok (.iadd, 1) := by decide +kernel
theorem dX4_lateIn_28 : decode cX4_lateIn 28 = .ok (.istore_n 2, 1) := by decide +kernel
theorem dX4_lateIn_29 : decode cX4_lateIn 29 = .ok (.iinc 3 1, 3) := by decide +kernel
theorem dX4_lateIn_32 : decode cX4_lateIn 32 = .ok (.goto (-28), 3) := by decide +kernel
theorem dX4_lateIn_35 : decode cX4_lateIn 35 = .ok (.iload_n 2, 1) := by decide +kernel
theorem dX4_lateIn_36 : decode cX4_lateIn 36 = .ok (.ireturn, 1) := by decide +kernel
theorem dX4_answeredIn_0 : decode cX4_answeredIn 0 = .ok (.iconst 0, 1) := by decide +kernel
theorem dX4_answeredIn_1 : decode cX4_answeredIn 1 = .ok (.istore_n 2, 1) := by decide +kernel
theorem dX4_answeredIn_2 : decode cX4_answeredIn 2 = .ok (.iconst 0, 1) := by decide +kernel
theorem dX4_answeredIn_3 : decode cX4_answeredIn 3 = .ok (.istore_n 3, 1) := by decide +kernel
theorem dX4_answeredIn_4 : decode cX4_answeredIn 4 = .ok (.iload_n 3, 1) := by decide +kernel
theorem dX4_answeredIn_5 : decode cX4_answeredIn 5 = .ok (.aload_n 1, 1) := by decide +kernel
theorem dX4_answeredIn_6 : decode cX4_answeredIn 6 = .ok (.getfield 115, 3) := by decide +kernel
theorem dX4_answeredIn_9 : decode cX4_answeredIn 9 = .ok (.if_icmp .ge 27, 3) := by decide +kernel
theorem dX4_answeredIn_12 : decode cX4_answeredIn 12 = .ok (.iload_n 2, 1) := by decide +kernel
theorem dX4_answeredIn_13 : decode cX4_answeredIn 13 = .ok (.aload_n 0, 1) := by decide +kernel
theorem dX4_answeredIn_14 : decode cX4_answeredIn 14 = .ok (.getfield 15, 3) := by decide +kernel
theorem dX4_answeredIn_17 : decode cX4_answeredIn 17 = .ok (.iload_n 3, 1) := by decide +kernel
theorem dX4_answeredIn_18 : decode cX4_answeredIn 18 = .ok (.iaload, 1) := by decide +kernel
theorem dX4_answeredIn_19 : decode cX4_answeredIn 19 = .ok (.iconst (-1), 1) := by decide +kernel
theorem dX4_answeredIn_20 : decode cX4_answeredIn 20 = .ok (.if_icmp .ne 7, 3) := by decide +kernel
theorem dX4_answeredIn_23 : decode cX4_answeredIn 23 = .ok (.iconst 0, 1) := by decide +kernel
theorem dX4_answeredIn_24 : decode cX4_answeredIn 24 = .ok (.goto 4, 3) := by decide +kernel
theorem dX4_answeredIn_27 : decode cX4_answeredIn 27 = .ok (.iconst 1, 1) := by decide +kernel
theorem dX4_answeredIn_28 : decode cX4_answeredIn 28 = .ok (.iadd, 1) := by decide +kernel
theorem dX4_answeredIn_29 : decode cX4_answeredIn 29 = .ok (.istore_n 2, 1) := by decide +kernel
theorem dX4_answeredIn_30 : decode cX4_answeredIn 30 = .ok (.iinc 3 1, 3) := by decide +kernel
theorem dX4_answeredIn_33 : decode cX4_answeredIn 33 = .ok (.goto (-29), 3) := by decide +kernel
theorem dX4_answeredIn_36 : decode cX4_answeredIn 36 = .ok (.iload_n 2, 1) := by decide +kernel
theorem dX4_answeredIn_37 : decode cX4_answeredIn 37 = .ok (.ireturn, 1) := by decide +kernel
theorem dX4_stuckPeople_0 : decode cX4_stuckPeople 0 = .ok (.iconst 0, 1) := by decide +kernel
theorem dX4_stuckPeople_1 : decode cX4_stuckPeople 1 = .ok (.istore_n 1, 1) := by decide +kernel
theorem dX4_stuckPeople_2 : decode cX4_stuckPeople 2 = .ok (.iconst 0, 1) := by decide +kernel
theorem dX4_stuckPeople_3 : decode cX4_stuckPeople 3 = .ok (.istore_n 2, 1) := by decide +kernel
theorem dX4_stuckPeople_4 : decode cX4_stuckPeople 4 = .ok (.iload_n 2, 1) := by decide +kernel
theorem dX4_stuckPeople_5 : decode cX4_stuckPeople 5 = .ok (.bipush 8, 2) := by decide +kernel
theorem dX4_stuckPeople_7 : decode cX4_stuckPeople 7 = .ok (.if_icmp .ge 29, 3) := by decide +kernel
theorem dX4_stuckPeople_10 : decode cX4_stuckPeople 10 = .ok (.iload_n 1, 1) := by decide +kernel
theorem dX4_stuckPeople_11 : decode cX4_stuckPeople 11 = .ok (.aload_n 0, 1) := by decide +kernel
theorem dX4_stuckPeople_12 : decode cX4_stuckPeople 12 = .ok (.getfield 27, 3) := by decide +kernel
theorem dX4_stuckPeople_15 : decode cX4_stuckPeople 15 = .ok (.iload_n 2, 1) := by decide +kernel
theorem dX4_stuckPeople_16 : decode cX4_stuckPeople 16 = .ok (.iaload, 1) := by decide +kernel
theorem dX4_stuckPeople_17 : decode cX4_stuckPeople 17 = .ok (.iconst (-1), 1) := by decide +kernel
theorem dX4_stuckPeople_18 : decode cX4_stuckPeople 18 = .ok (.if_icmp .ne 7, 3) := by decide +kernel
theorem dX4_stuckPeople_21 : decode cX4_stuckPeople 21 = .ok (.iconst 0, 1) := by decide +kernel
theorem dX4_stuckPeople_22 : decode cX4_stuckPeople 22 = .ok (.goto 6, 3) := by decide +kernel
theorem dX4_stuckPeople_25 : decode cX4_stuckPeople 25 = .ok (.iconst 1, 1) := by decide +kernel
theorem dX4_stuckPeople_26 : decode cX4_stuckPeople 26 = .ok (.iload_n 2, 1) := by decide +kernel
theorem dX4_stuckPeople_27 : decode cX4_stuckPeople 27 = .ok (.ishl, 1) := by decide +kernel
theorem dX4_stuckPeople_28 : decode cX4_stuckPeople 28 = .ok (.ior, 1) := by decide +kernel
theorem dX4_stuckPeople_29 : decode cX4_stuckPeople 29 = .ok (.istore_n 1, 1) := by decide +kernel
theorem dX4_stuckPeople_30 : decode cX4_stuckPeople 30 = .ok (.iinc 2 1, 3) := by decide +kernel
theorem dX4_stuckPeople_33 : decode cX4_stuckPeople 33 = .ok (.goto (-29), 3) := by decide +kernel
theorem dX4_stuckPeople_36 : decode cX4_stuckPeople 36 = .ok (.iload_n 1, 1) := by decide +kernel
theorem dX4_stuckPeople_37 : decode cX4_stuckPeople 37 = .ok (.ireturn, 1) := by decide +kernel
theorem dX4_ringOf_0 : decode cX4_ringOf 0 = .ok (.iconst 0, 1) := by decide +kernel
theorem dX4_ringOf_1 : decode cX4_ringOf 1 = .ok (.istore_n 2, 1) := by decide +kernel
theorem dX4_ringOf_2 : decode cX4_ringOf 2 = .ok (.iload_n 1, 1) := by decide +kernel
theorem dX4_ringOf_3 : decode cX4_ringOf 3 = .ok (.istore_n 3, 1) := by decide +kernel
theorem dX4_ringOf_4 : decode cX4_ringOf 4 = .ok (.iconst 0, 1) := by decide +kernel
theorem dX4_ringOf_5 : decode cX4_ringOf 5 = .ok (.istore 4, 2) := by decide +kernel
theorem dX4_ringOf_7 : decode cX4_ringOf 7 = .ok (.iload 4, 2) := by decide +kernel
theorem dX4_ringOf_9 : decode cX4_ringOf 9 = .ok (.bipush 8, 2) := by decide +kernel
theorem dX4_ringOf_11 : decode cX4_ringOf 11 = .ok (.if_icmp .ge 39, 3) := by decide +kernel
theorem dX4_ringOf_14 : decode cX4_ringOf 14 = .ok (.aload_n 0, 1) := by decide +kernel
theorem dX4_ringOf_15 : decode cX4_ringOf 15 = .ok (.getfield 27, 3) := by decide +kernel
theorem dX4_ringOf_18 : decode cX4_ringOf 18 = .ok (.iload_n 3, 1) := by decide +kernel
theorem dX4_ringOf_19 : decode cX4_ringOf 19 = .ok (.iaload, 1) := by decide +kernel
theorem dX4_ringOf_20 : decode cX4_ringOf 20 = .ok (.iconst (-1), 1) := by decide +kernel
theorem dX4_ringOf_21 : decode cX4_ringOf 21 = .ok (.if_icmp .eq 29, 3) := by decide +kernel
theorem dX4_ringOf_24 : decode cX4_ringOf 24 = .ok (.iload_n 2, 1) := by decide +kernel
theorem dX4_ringOf_25 : decode cX4_ringOf 25 = .ok (.iconst 1, 1) := by decide +kernel
theorem dX4_ringOf_26 : decode cX4_ringOf 26 = .ok (.iload_n 3, 1) := by decide +kernel
theorem dX4_ringOf_27 : decode cX4_ringOf 27 = .ok (.ishl, 1) := by decide +kernel
theorem dX4_ringOf_28 : decode cX4_ringOf 28 = .ok (.ior, 1) := by decide +kernel
theorem dX4_ringOf_29 : decode cX4_ringOf 29 = .ok (.istore_n 2, 1) := by decide +kernel
theorem dX4_ringOf_30 : decode cX4_ringOf 30 = .ok (.aload_n 0, 1) := by decide +kernel
theorem dX4_ringOf_31 : decode cX4_ringOf 31 = .ok (.getfield 27, 3) := by decide +kernel
theorem dX4_ringOf_34 : decode cX4_ringOf 34 = .ok (.iload_n 3, 1) := by decide +kernel
theorem dX4_ringOf_35 : decode cX4_ringOf 35 = .ok (.iaload, 1) := by decide +kernel
theorem dX4_ringOf_36 : decode cX4_ringOf 36 = .ok (.istore_n 3, 1) := by decide +kernel
theorem dX4_ringOf_37 : decode cX4_ringOf 37 = .ok (.iload_n 3, 1) := by decide +kernel
theorem dX4_ringOf_38 : decode cX4_ringOf 38 = .ok (.iload_n 1, 1) := by decide +kernel
theorem dX4_ringOf_39 : decode cX4_ringOf 39 = .ok (.if_icmp .ne 5, 3) := by decide +kernel
theorem dX4_ringOf_42 : decode cX4_ringOf 42 = .ok (.iload_n 2, 1) := by decide +kernel
theorem dX4_ringOf_43 : decode cX4_ringOf 43 = .ok (.ireturn, 1) := by decide +kernel
theorem dX4_ringOf_44 : decode cX4_ringOf 44 = .ok (.iinc 4 1, 3) := by decide +kernel
theorem dX4_ringOf_47 : decode cX4_ringOf 47 = .ok (.goto (-40), 3) := by decide +kernel
theorem dX4_ringOf_50 : decode cX4_ringOf 50 = .ok (.iconst 0, 1) := by decide +kernel
theorem dX4_ringOf_51 : decode cX4_ringOf 51 = .ok (.ireturn, 1) := by decide +kernel
theorem dX5_init_0 : decode cX5_init 0 = .ok (.aload_n 0, 1) := by decide +kernel
theorem dX5_init_1 : decode cX5_init 1 = .ok (.invokespecial 1, 3) := by decide +kernel
theorem dX5_init_4 : decode cX5_init 4 = .ok (.aload_n 0, 1) := by decide +kernel
theorem dX5_init_5 : decode cX5_init 5 = .ok (.bipush 60, 2) := by decide +kernel
theorem dX5_init_7 : decode cX5_init 7 = .ok (.newarray .long, 2) := by decide +kernel
theorem dX5_init_9 : decode cX5_init 9 = .ok (.putfield 9, 3) := by decide +kernel
theorem dX5_init_12 : decode cX5_init 12 = .ok (.aload_n 0, 1) := by decide +kernel
theorem dX5_init_13 : decode cX5_init 13 = .ok (.iconst 0, 1) := by decide +kernel
theorem dX5_init_14 : decode cX5_init 14 = .ok (.putfield 13, 3) := by decide +kernel
theorem dX5_init_17 : decode cX5_init 17 = .ok (.aload_n 0, 1) := by decide +kernel
theorem dX5_init_18 : decode cX5_init 18 = .ok (.iconst 0, 1) := by decide +kernel
theorem dX5_init_19 : decode cX5_init 19 = .ok (.putfield 17, 3) := by decide +kernel
theorem dX5_init_22 : decode cX5_init 22 = .ok (.aload_n 0, 1) := by decide +kernel
theorem dX5_init_23 : decode cX5_init 23 = .ok (.iconst 0, 1) := by decide +kernel
theorem dX5_init_24 : decode cX5_init 24 = .ok (.putfield 21, 3) := by decide +kernel
theorem dX5_init_27 : decode cX5_init 27 = .ok (.return_, 1) := by decide +kernel
theorem dX5_begin_0 : decode cX5_begin 0 = .ok (.aload_n 0, 1) := by decide +kernel
theorem dX5_begin_1 : decode cX5_begin 1 = .ok (.iconst 1, 1) := by decide +kernel
theorem dX5_begin_2 : decode cX5_begin 2 = .ok (.putfield 13, 3) := by decide +kernel
theorem dX5_begin_5 : decode cX5_begin 5 = .ok (.aload_n 0, 1) := by decide +kernel
theorem dX5_begin_6 : decode cX5_begin 6 = .ok (.iload_n 1, 1) := by decide +kernel
theorem dX5_begin_7 : decode cX5_begin 7 = .ok (.putfield 17, 3) := by decide +kernel
theorem dX5_begin_10 : decode cX5_begin 10 = .ok (.aload_n 0, 1) := by decide +kernel
theorem dX5_begin_11 : decode cX5_begin 11 = .ok (.iload_n 2, 1) := by decide +kernel
theorem dX5_begin_12 : decode cX5_begin 12 = .ok (.putfield 21, 3) := by decide +kernel
theorem dX5_begin_15 : decode cX5_begin 15 = .ok (.aload_n 0, 1) := by decide +kernel
theorem dX5_begin_16 : decode cX5_begin 16 = .ok (.getfield 9, 3) := by decide +kernel
theorem dX5_begin_19 : decode cX5_begin 19 = .ok (.lconst 0, 1) := by decide +kernel
theorem dX5_begin_20 : decode cX5_begin 20 = .ok (.invokestatic 24, 3) := by decide +kernel
theorem dX5_begin_23 : decode cX5_begin 23 = .ok (.return_, 1) := by decide +kernel
theorem dX5_cut_0 : decode cX5_cut 0 = .ok (.aload_n 0, 1) := by decide +kernel
theorem dX5_cut_1 : decode cX5_cut 1 = .ok (.getfield 17, 3) := by decide +kernel
theorem dX5_cut_4 : decode cX5_cut 4 = .ok (.tableswitch 42 0 2 #[28, 33, 38], 28) := by decide +kernel
theorem dX5_cut_32 : decode cX5_cut 32 = .ok (.lload_n 1, 1) := by decide +kernel
theorem dX5_cut_33 : decode cX5_cut 33 = .ok (.l2i, 1) := by decide +kernel
theorem dX5_cut_34 : decode cX5_cut 34 = .ok (.i2b, 1) := by decide +kernel
theorem dX5_cut_35 : decode cX5_cut 35 = .ok (.i2l, 1) := by decide +kernel
theorem dX5_cut_36 : decode cX5_cut 36 = .ok (.lreturn, 1) := by decide +kernel
theorem dX5_cut_37 : decode cX5_cut 37 = .ok (.lload_n 1, 1) := by decide +kernel
theorem dX5_cut_38 : decode cX5_cut 38 = .ok (.l2i, 1) := by decide +kernel
theorem dX5_cut_39 : decode cX5_cut 39 = .ok (.i2s, 1) := by decide +kernel
theorem dX5_cut_40 : decode cX5_cut 40 = .ok (.i2l, 1) := by decide +kernel
theorem dX5_cut_41 : decode cX5_cut 41 = .ok (.lreturn, 1) := by decide +kernel
theorem dX5_cut_42 : decode cX5_cut 42 = .ok (.lload_n 1, 1) := by decide +kernel
theorem dX5_cut_43 : decode cX5_cut 43 = .ok (.l2i, 1) := by decide +kernel
theorem dX5_cut_44 : decode cX5_cut 44 = .ok (.i2l, 1) := by decide +kernel
theorem dX5_cut_45 : decode cX5_cut 45 = .ok (.lreturn, 1) := by decide +kernel
theorem dX5_cut_46 : decode cX5_cut 46 = .ok (.lload_n 1, 1) := by decide +kernel
theorem dX5_cut_47 : decode cX5_cut 47 = .ok (.lreturn, 1) := by decide +kernel
theorem dX5_spans_0 : decode cX5_spans 0 = .ok (.iload_n 1, 1) := by decide +kernel
theorem dX5_spans_1 : decode cX5_spans 1 = .ok (.ifCond .lt 25, 3) := by decide +kernel
theorem dX5_spans_4 : decode cX5_spans 4 = .ok (.iload_n 2, 1) := by decide +kernel
theorem dX5_spans_5 : decode cX5_spans 5 = .ok (.ifCond .lt 21, 3) := by decide +kernel
theorem dX5_spans_8 : decode cX5_spans 8 = .ok (.iload_n 1, 1) := by decide +kernel
theorem dX5_spans_9 : decode cX5_spans 9 = .ok (.i2l, 1) := by decide +kernel
theorem dX5_spans_10 : decode cX5_spans 10 = .ok (.iload_n 2, 1) := by decide +kernel
theorem dX5_spans_11 : decode cX5_spans 11 = .ok (.i2l, 1) := by decide +kernel
theorem dX5_spans_12 : decode cX5_spans 12 = .ok (.ladd, 1) := by decide +kernel
theorem dX5_spans_13 : decode cX5_spans 13 = .ok (.aload_n 0, 1) := by decide +kernel
theorem dX5_spans_14 : decode cX5_spans 14 = .ok (.getfield 21, 3) := by decide +kernel
theorem dX5_spans_17 : decode cX5_spans 17 = .ok (.i2l, 1) := by decide +kernel
theorem dX5_spans_18 : decode cX5_spans 18 = .ok (.lcmp, 1) := by decide +kernel
theorem dX5_spans_19 : decode cX5_spans 19 = .ok (.ifCond .gt 7, 3) := by decide +kernel
theorem dX5_spans_22 : decode cX5_spans 22 = .ok (.iconst 1, 1) := by decide +kernel
theorem dX5_spans_23 : decode cX5_spans 23 = .ok (.goto 4, 3) := by decide +kernel
theorem dX5_spans_26 : decode cX5_spans 26 = .ok (.iconst 0, 1) := by decide +kernel
theorem dX5_spans_27 : decode cX5_spans 27 = .ok (.ireturn, 1) := by decide +kernel
theorem dX6_init_0 : decode cX6_init 0 = .ok (.aload_n 0, 1) := by decide +kernel
theorem dX6_init_1 : decode cX6_init 1 = .ok (.invokespecial 3, 3) := by decide +kernel
theorem dX6_init_4 : decode cX6_init 4 = .ok (.aload_n 0, 1) := by decide +kernel
theorem dX6_init_5 : decode cX6_init 5 = .ok (.sipush 2400, 3) := by decide +kernel
theorem dX6_init_8 : decode cX6_init 8 = .ok (.newarray .byte, 2) := by decide +kernel
theorem dX6_init_10 : decode cX6_init 10 = .ok (.putfield 11, 3) := by decide +kernel
theorem dX6_init_13 : decode cX6_init 13 = .ok (.aload_n 0, 1) := by decide +kernel
theorem dX6_init_14 : decode cX6_init 14 = .ok (.iconst 0, 1) := by decide +kernel
theorem dX6_init_15 : decode cX6_init 15 = .ok (.putfield 15, 3) := by decide +kernel
theorem dX6_init_18 : decode cX6_init 18 = .ok (.return_, 1) := by decide +kernel
theorem dX6_hasRoom_0 : decode cX6_hasRoom 0 = .ok (.aload_n 0, 1) := by decide +kernel
theorem dX6_hasRoom_1 : decode cX6_hasRoom 1 = .ok (.getfield 15, 3) := by decide +kernel
theorem dX6_hasRoom_4 : decode cX6_hasRoom 4 = .ok (.bipush 20, 2) := by decide +kernel
theorem dX6_hasRoom_6 : decode cX6_hasRoom 6 = .ok (.iadd, 1) := by decide +kernel
theorem dX6_hasRoom_7 : decode cX6_hasRoom 7 = .ok (.sipush 2400, 3) := by decide +kernel
theorem dX6_hasRoom_10 : decode cX6_hasRoom 10 = .ok (.if_icmp .gt 7, 3) := by decide +kernel
theorem dX6_hasRoom_13 : decode cX6_hasRoom 13 = .ok (.iconst 1, 1) := by decide +kernel
theorem dX6_hasRoom_14 : decode cX6_hasRoom 14 = .ok (.goto 4, 3) := by decide +kernel
theorem dX6_hasRoom_17 : decode cX6_hasRoom 17 = .ok (.iconst 0, 1) := by decide +kernel
theorem dX6_hasRoom_18 : decode cX6_hasRoom 18 = .ok (.ireturn, 1) := by decide +kernel
theorem dX6_append_0 : decode cX6_append 0 = .ok (.bipush 24, 2) := by decide +kernel
theorem dX6_append_2 : decode cX6_append 2 = .ok (.istore_n 2, 1) := by decide +kernel
theorem dX6_append_3 : decode cX6_append 3 = .ok (.iload_n 2, 1) := by decide +kernel
theorem dX6_append_4 : decode cX6_append 4 = .ok (.ifCond .lt 42, 3) := by decide +kernel
theorem dX6_append_7 : decode cX6_append 7 = .ok (.aload_n 0, 1) := by decide +kernel
theorem dX6_append_8 : decode cX6_append 8 = .ok (.getfield 15, 3) := by decide +kernel
theorem dX6_append_11 : decode cX6_append 11 = .ok (.sipush 2400, 3) := by decide +kernel
theorem dX6_append_14 : decode cX6_append 14 = .ok (.if_icmp .ge 32, 3) := by decide +kernel
theorem dX6_append_17 : decode cX6_append 17 = .ok (.aload_n 0, 1) := by decide +kernel
theorem dX6_append_18 : decode cX6_append 18 = .ok (.getfield 11, 3) := by decide +kernel
theorem dX6_append_21 : decode cX6_append 21 = .ok (.aload_n 0, 1) := by decide +kernel
theorem dX6_append_22 : decode cX6_append 22 = .ok (.getfield 15, 3) := by decide +kernel
theorem dX6_append_25 : decode cX6_append 25 = .ok (.iload_n 1, 1) := by decide +kernel
theorem dX6_append_26 : decode cX6_append 26 = .ok (.iload_n 2, 1) := by decide +kernel
theorem dX6_append_27 : decode cX6_append 27 = .ok (.ishr, 1) := by decide +kernel
theorem dX6_append_28 : decode cX6_append 28 = .ok (.i2b, 1) := by decide +kernel
theorem dX6_append_29 : decode cX6_append 29 = .ok (.bastore, 1) := by decide +kernel
theorem dX6_append_30 : decode cX6_append 30 = .ok (.aload_n 0, 1) := by decide +kernel
theorem dX6_append_31 : decode cX6_append 31 = .ok (.dup, 1) := by decide +kernel
theorem dX6_append_32 : decode cX6_append 32 = .ok (.getfield 15, 3) := by decide +kernel
theorem dX6_append_35 : decode cX6_append 35 = .ok (.iconst 1, 1) := by decide +kernel
theorem dX6_append_36 : decode cX6_append 36 = .ok (.iadd, 1) := by decide +kernel
theorem dX6_append_37 : decode cX6_append 37 = .ok (.putfield 15, 3) := by decide +kernel
theorem dX6_append_40 : decode cX6_append 40 = .ok (.iinc 2 (-8), 3) := by decide +kernel
theorem dX6_append_43 : decode cX6_append 43 = .ok (.goto (-40), 3) := by decide +kernel
theorem dX6_append_46 : decode cX6_append 46 = .ok (.return_, 1) := by decide +kernel
theorem dX6_at_0 : decode cX6_at 0 = .ok (.iload_n 1, 1) := by decide +kernel
theorem dX6_at_1 : decode cX6_at 1 = .ok (.ifCond .lt 31, 3) := by decide +kernel
theorem dX6_at_4 : decode cX6_at 4 = .ok (.iload_n 1, 1) := by decide +kernel
theorem dX6_at_5 : decode cX6_at 5 = .ok (.aload_n 0, 1) := by decide +kernel
theorem dX6_at_6 : decode cX6_at 6 = .ok (.getfield 15, 3) := by decide +kernel
theorem dX6_at_9 : decode cX6_at 9 = .ok (.if_icmp .ge 23, 3) := by decide +kernel
theorem dX6_at_12 : decode cX6_at 12 = .ok (.iload_n 1, 1) := by decide +kernel
theorem dX6_at_13 : decode cX6_at 13 = .ok (.sipush 2400, 3) := by decide +kernel
theorem dX6_at_16 : decode cX6_at 16 = .ok (.if_icmp .ge 16, 3) := by decide +kernel
theorem dX6_at_19 : decode cX6_at 19 = .ok (.aload_n 0, 1) := by decide +kernel
theorem dX6_at_20 : decode cX6_at 20 = .ok (.getfield 11, 3) := by decide +kernel
theorem dX6_at_23 : decode cX6_at 23 = .ok (.iload_n 1, 1) := by decide +kernel
theorem dX6_at_24 : decode cX6_at 24 = .ok (.baload, 1) := by decide +kernel
theorem dX6_at_25 : decode cX6_at 25 = .ok (.sipush 255, 3) := by decide +kernel
theorem dX6_at_28 : decode cX6_at 28 = .ok (.iand, 1) := by decide +kernel
theorem dX6_at_29 : decode cX6_at 29 = .ok (.goto 4, 3) := by decide +kernel
theorem dX6_at_32 : decode cX6_at 32 = .ok (.iconst (-1), 1) := by decide +kernel
theorem dX6_at_33 : decode cX6_at 33 = .ok (.ireturn, 1) := by decide +kernel
theorem dX7_init_0 : decode cX7_init 0 = .ok (.aload_n 0, 1) := by decide +kernel
theorem dX7_init_1 : decode cX7_init 1 = .ok (.invokespecial 3, 3) := by decide +kernel
theorem dX7_init_4 : decode cX7_init 4 = .ok (.aload_n 0, 1) := by decide +kernel
theorem dX7_init_5 : decode cX7_init 5 = .ok (.iconst 0, 1) := by decide +kernel
theorem dX7_init_6 : decode cX7_init 6 = .ok (.putfield 9, 3) := by decide +kernel
theorem dX7_init_9 : decode cX7_init 9 = .ok (.aload_n 0, 1) := by decide +kernel
theorem dX7_init_10 : decode cX7_init 10 = .ok (.iconst 0, 1) := by decide +kernel
theorem dX7_init_11 : decode cX7_init 11 = .ok (.putfield 15, 3) := by decide +kernel
theorem dX7_init_14 : decode cX7_init 14 = .ok (.aload_n 0, 1) := by decide +kernel
theorem dX7_init_15 : decode cX7_init 15 = .ok (.iconst 0, 1) := by decide +kernel
theorem dX7_init_16 : decode cX7_init 16 = .ok (.putfield 18, 3) := by decide +kernel
theorem dX7_init_19 : decode cX7_init 19 = .ok (.aload_n 0, 1) := by decide +kernel
theorem dX7_init_20 : decode cX7_init 20 = .ok (.iconst 0, 1) := by decide +kernel
theorem dX7_init_21 : decode cX7_init 21 = .ok (.putfield 21, 3) := by decide +kernel
theorem dX7_init_24 : decode cX7_init 24 = .ok (.aload_n 0, 1) := by decide +kernel
theorem dX7_init_25 : decode cX7_init 25 = .ok (.iconst 0, 1) := by decide +kernel
theorem dX7_init_26 : decode cX7_init 26 = .ok (.putfield 24, 3) := by decide +kernel
theorem dX7_init_29 : decode cX7_init 29 = .ok (.aload_n 0, 1) := by decide +kernel
theorem dX7_init_30 : decode cX7_init 30 = .ok (.iconst 0, 1) := by decide +kernel
theorem dX7_init_31 : decode cX7_init 31 = .ok (.putfield 27, 3) := by decide +kernel
theorem dX7_init_34 : decode cX7_init 34 = .ok (.aload_n 0, 1) := by decide +kernel
theorem dX7_init_35 : decode cX7_init 35 = .ok (.iconst 0, 1) := by decide +kernel
theorem dX7_init_36 : decode cX7_init 36 = .ok (.putfield 30, 3) := by decide +kernel
theorem dX7_init_39 : decode cX7_init 39 = .ok (.aload_n 0, 1) := by decide +kernel
theorem dX7_init_40 : decode cX7_init 40 = .ok (.iconst 0, 1) := by decide +kernel
theorem dX7_init_41 : decode cX7_init 41 = .ok (.putfield 33, 3) := by decide +kernel
theorem dX7_init_44 : decode cX7_init 44 = .ok (.aload_n 0, 1) := by decide +kernel
theorem dX7_init_45 : decode cX7_init 45 = .ok (.bipush 8, 2) := by decide +kernel
theorem dX7_init_47 : decode cX7_init 47 = .ok (.newarray .int, 2) := by decide +kernel
theorem dX7_init_49 : decode cX7_init 49 = .ok (.putfield 37, 3) := by decide +kernel
theorem dX7_init_52 : decode cX7_init 52 = .ok (.aload_n 0, 1) := by decide +kernel
theorem dX7_init_53 : decode cX7_init 53 = .ok (.bipush 8, 2) := by decide +kernel
theorem dX7_init_55 : decode cX7_init 55 = .ok (.newarray .int, 2) := by decide +kernel
theorem dX7_init_57 : decode cX7_init 57 = .ok (.putfield 41, 3) := by decide +kernel
theorem dX7_init_60 : decode cX7_init 60 = .ok (.aload_n 0, 1) := by decide +kernel
theorem dX7_init_61 : decode cX7_init 61 = .ok (.bipush 8, 2) := by decide +kernel
theorem dX7_init_63 : decode cX7_init 63 = .ok (.newarray .int, 2) := by decide +kernel
theorem dX7_init_65 : decode cX7_init 65 = .ok (.putfield 44, 3) := by decide +kernel
theorem dX7_init_68 : decode cX7_init 68 = .ok (.aload_n 0, 1) := by decide +kernel
theorem dX7_init_69 : decode cX7_init 69 = .ok (.bipush 49, 2) := by decide +kernel
theorem dX7_init_71 : decode cX7_init 71 = .ok (.newarray .int, 2) := by decide +kernel
theorem dX7_init_73 : decode cX7_init 73 = .ok (.putfield 47, 3) := by decide +kernel
theorem dX7_init_76 : decode cX7_init 76 = .ok (.aload_n 0, 1) := by decide +kernel
theorem dX7_init_77 : decode cX7_init 77 = .ok (.bipush 49, 2) := by decide +kernel
theorem dX7_init_79 : decode cX7_init 79 = .ok (.newarray .int, 2) := by decide +kernel
theorem dX7_init_81 : decode cX7_init 81 = .ok (.putfield 50, 3) := by decide +kernel
theorem dX7_init_84 : decode cX7_init 84 = .ok (.aload_n 0, 1) := by decide +kernel
theorem dX7_init_85 : decode cX7_init 85 = .ok (.bipush 49, 2) := by decide +kernel
theorem dX7_init_87 : decode cX7_init 87 = .ok (.newarray .int, 2) := by decide +kernel
theorem dX7_init_89 : decode cX7_init 89 = .ok (.putfield 53, 3) := by decide +kernel
theorem dX7_init_92 : decode cX7_init 92 = .ok (.aload_n 0, 1) := by decide +kernel
theorem dX7_init_93 : decode cX7_init 93 = .ok (.bipush 49, 2) := by decide +kernel
theorem dX7_init_95 : decode cX7_init 95 = .ok (.newarray .int, 2) := by decide +kernel
theorem dX7_init_97 : decode cX7_init 97 = .ok (.putfield 56, 3) := by decide +kernel
theorem dX7_init_100 : decode cX7_init 100 = .ok (.aload_n 0, 1) := by decide +kernel
theorem dX7_init_101 : decode cX7_init 101 = .ok (.bipush 49, 2) := by decide +kernel
theorem dX7_init_103 : decode cX7_init 103 = .ok (.newarray .int, 2) := by decide +kernel
theorem dX7_init_105 : decode cX7_init 105 = .ok (.putfield 59, 3) := by decide +kernel
theorem dX7_init_108 : decode cX7_init 108 = .ok (.aload_n 0, 1) := by decide +kernel
theorem dX7_init_109 : decode cX7_init 109 = .ok (.bipush 49, 2) := by decide +kernel
theorem dX7_init_111 : decode cX7_init 111 = .ok (.newarray .int, 2) := by decide +kernel
theorem dX7_init_113 : decode cX7_init 113 = .ok (.putfield 62, 3) := by decide +kernel
theorem dX7_init_116 : decode cX7_init 116 = .ok (.aload_n 0, 1) := by decide +kernel
theorem dX7_init_117 : decode cX7_init 117 = .ok (.bipush 49, 2) := by decide +kernel
theorem dX7_init_119 : decode cX7_init 119 = .ok (.newarray .int, 2) := by decide +kernel
theorem dX7_init_121 : decode cX7_init 121 = .ok (.putfield 65, 3) := by decide +kernel
theorem dX7_init_124 : decode cX7_init 124 = .ok (.aload_n 0, 1) := by decide +kernel
theorem dX7_init_125 : decode cX7_init 125 = .ok (.invokevirtual 68, 3) := by decide +kernel
theorem dX7_init_128 : decode cX7_init 128 = .ok (.return_, 1) := by decide +kernel
theorem dX7_clear_0 : decode cX7_clear 0 = .ok (.aload_n 0, 1) := by decide +kernel
theorem dX7_clear_1 : decode cX7_clear 1 = .ok (.iconst 0, 1) := by decide +kernel
theorem dX7_clear_2 : decode cX7_clear 2 = .ok (.putfield 9, 3) := by decide +kernel
theorem dX7_clear_5 : decode cX7_clear 5 = .ok (.aload_n 0, 1) := by decide +kernel
theorem dX7_clear_6 : decode cX7_clear 6 = .ok (.iconst 0, 1) := by decide +kernel
theorem dX7_clear_7 : decode cX7_clear 7 = .ok (.putfield 15, 3) := by decide +kernel
theorem dX7_clear_10 : decode cX7_clear 10 = .ok (.aload_n 0, 1) := by decide +kernel
theorem dX7_clear_11 : decode cX7_clear 11 = .ok (.iconst 0, 1) := by decide +kernel
theorem dX7_clear_12 : decode cX7_clear 12 = .ok (.putfield 18, 3) := by decide +kernel
theorem dX7_clear_15 : decode cX7_clear 15 = .ok (.aload_n 0, 1) := by decide +kernel
theorem dX7_clear_16 : decode cX7_clear 16 = .ok (.iconst 0, 1) := by decide +kernel
theorem dX7_clear_17 : decode cX7_clear 17 = .ok (.putfield 21, 3) := by decide +kernel
theorem dX7_clear_20 : decode cX7_clear 20 = .ok (.aload_n 0, 1) := by decide +kernel
theorem dX7_clear_21 : decode cX7_clear 21 = .ok (.iconst 0, 1) := by decide +kernel
theorem dX7_clear_22 : decode cX7_clear 22 = .ok (.putfield 24, 3) := by decide +kernel
theorem dX7_clear_25 : decode cX7_clear 25 = .ok (.aload_n 0, 1) := by decide +kernel
theorem dX7_clear_26 : decode cX7_clear 26 = .ok (.iconst 0, 1) := by decide +kernel
theorem dX7_clear_27 : decode cX7_clear 27 = .ok (.putfield 27, 3) := by decide +kernel
theorem dX7_clear_30 : decode cX7_clear 30 = .ok (.aload_n 0, 1) := by decide +kernel
theorem dX7_clear_31 : decode cX7_clear 31 = .ok (.iconst 0, 1) := by decide +kernel
theorem dX7_clear_32 : decode cX7_clear 32 = .ok (.putfield 30, 3) := by decide +kernel
theorem dX7_clear_35 : decode cX7_clear 35 = .ok (.aload_n 0, 1) := by decide +kernel
theorem dX7_clear_36 : decode cX7_clear 36 = .ok (.iconst 0, 1) := by decide +kernel
theorem dX7_clear_37 : decode cX7_clear 37 = .ok (.putfield 33, 3) := by decide +kernel
theorem dX7_clear_40 : decode cX7_clear 40 = .ok (.aload_n 0, 1) := by decide +kernel
theorem dX7_clear_41 : decode cX7_clear 41 = .ok (.getfield 47, 3) := by decide +kernel
theorem dX7_clear_44 : decode cX7_clear 44 = .ok (.iconst 0, 1) := by decide +kernel
theorem dX7_clear_45 : decode cX7_clear 45 = .ok (.invokestatic 71, 3) := by decide +kernel
theorem dX7_clear_48 : decode cX7_clear 48 = .ok (.aload_n 0, 1) := by decide +kernel
theorem dX7_clear_49 : decode cX7_clear 49 = .ok (.getfield 50, 3) := by decide +kernel
theorem dX7_clear_52 : decode cX7_clear 52 = .ok (.iconst 0, 1) := by decide +kernel
theorem dX7_clear_53 : decode cX7_clear 53 = .ok (.invokestatic 71, 3) := by decide +kernel
theorem dX7_clear_56 : decode cX7_clear 56 = .ok (.aload_n 0, 1) := by decide +kernel
theorem dX7_clear_57 : decode cX7_clear 57 = .ok (.getfield 53, 3) := by decide +kernel
theorem dX7_clear_60 : decode cX7_clear 60 = .ok (.iconst (-1), 1) := by decide +kernel
theorem dX7_clear_61 : decode cX7_clear 61 = .ok (.invokestatic 71, 3) := by decide +kernel
theorem dX7_clear_64 : decode cX7_clear 64 = .ok (.aload_n 0, 1) := by decide +kernel
theorem dX7_clear_65 : decode cX7_clear 65 = .ok (.getfield 56, 3) := by decide +kernel
theorem dX7_clear_68 : decode cX7_clear 68 = .ok (.iconst 0, 1) := by decide +kernel
theorem dX7_clear_69 : decode cX7_clear 69 = .ok (.invokestatic 71, 3) := by decide +kernel
theorem dX7_clear_72 : decode cX7_clear 72 = .ok (.aload_n 0, 1) := by decide +kernel
theorem dX7_clear_73 : decode cX7_clear 73 = .ok (.getfield 59, 3) := by decide +kernel
theorem dX7_clear_76 : decode cX7_clear 76 = .ok (.iconst (-1), 1) := by decide +kernel
theorem dX7_clear_77 : decode cX7_clear 77 = .ok (.invokestatic 71, 3) := by decide +kernel
theorem dX7_clear_80 : decode cX7_clear 80 = .ok (.aload_n 0, 1) := by decide +kernel
theorem dX7_clear_81 : decode cX7_clear 81 = .ok (.getfield 62, 3) := by decide +kernel
theorem dX7_clear_84 : decode cX7_clear 84 = .ok (.iconst 0, 1) := by decide +kernel
theorem dX7_clear_85 : decode cX7_clear 85 = .ok (.invokestatic 71, 3) := by decide +kernel
theorem dX7_clear_88 : decode cX7_clear 88 = .ok (.aload_n 0, 1) := by decide +kernel
theorem dX7_clear_89 : decode cX7_clear 89 = .ok (.getfield 65, 3) := by decide +kernel
theorem dX7_clear_92 : decode cX7_clear 92 = .ok (.iconst (-1), 1) := by decide +kernel
theorem dX7_clear_93 : decode cX7_clear 93 = .ok (.invokestatic 71, 3) := by decide +kernel
theorem dX7_clear_96 : decode cX7_clear 96 = .ok (.return_, 1) := by decide +kernel
theorem dX7_copyFrom_0 : decode cX7_copyFrom 0 = .ok (.aload_n 0, 1) := by decide +kernel
theorem dX7_copyFrom_1 : decode cX7_copyFrom 1 = .ok (.aload_n 1, 1) := by decide +kernel
theorem dX7_copyFrom_2 : decode cX7_copyFrom 2 = .ok (.getfield 9, 3) := by decide +kernel
theorem dX7_copyFrom_5 : decode cX7_copyFrom 5 = .ok (.putfield 9, 3) := by decide +kernel
theorem dX7_copyFrom_8 : decode cX7_copyFrom 8 = .ok (.aload_n 0, 1) := by decide +kernel
theorem dX7_copyFrom_9 : decode cX7_copyFrom 9 = .ok (.aload_n 1, 1) := by decide +kernel
theorem dX7_copyFrom_10 : decode cX7_copyFrom 10 = .ok (.getfield 15, 3) := by decide +kernel
theorem dX7_copyFrom_13 : decode cX7_copyFrom 13 = .ok (.putfield 15, 3) := by decide +kernel
theorem dX7_copyFrom_16 : decode cX7_copyFrom 16 = .ok (.aload_n 0, 1) := by decide +kernel
theorem dX7_copyFrom_17 : decode cX7_copyFrom 17 = .ok (.aload_n 1, 1) := by decide +kernel
theorem dX7_copyFrom_18 : decode cX7_copyFrom 18 = .ok (.getfield 18, 3) := by decide +kernel
theorem dX7_copyFrom_21 : decode cX7_copyFrom 21 = .ok (.putfield 18, 3) := by decide +kernel
theorem dX7_copyFrom_24 : decode cX7_copyFrom 24 = .ok (.aload_n 0, 1) := by decide +kernel
theorem dX7_copyFrom_25 : decode cX7_copyFrom 25 = .ok (.aload_n 1, 1) := by decide +kernel
theorem dX7_copyFrom_26 : decode cX7_copyFrom 26 = .ok (.getfield 21, 3) := by decide +kernel
theorem dX7_copyFrom_29 : decode cX7_copyFrom 29 = .ok (.putfield 21, 3) := by decide +kernel
theorem dX7_copyFrom_32 : decode cX7_copyFrom 32 = .ok (.aload_n 0, 1) := by decide +kernel
theorem dX7_copyFrom_33 : decode cX7_copyFrom 33 = .ok (.aload_n 1, 1) := by decide +kernel
theorem dX7_copyFrom_34 : decode cX7_copyFrom 34 = .ok (.getfield 24, 3) := by decide +kernel
theorem dX7_copyFrom_37 : decode cX7_copyFrom 37 = .ok (.putfield 24, 3) := by decide +kernel
theorem dX7_copyFrom_40 : decode cX7_copyFrom 40 = .ok (.aload_n 0, 1) := by decide +kernel
theorem dX7_copyFrom_41 : decode cX7_copyFrom 41 = .ok (.aload_n 1, 1) := by decide +kernel
theorem dX7_copyFrom_42 : decode cX7_copyFrom 42 = .ok (.getfield 27, 3) := by decide +kernel
theorem dX7_copyFrom_45 : decode cX7_copyFrom 45 = .ok (.putfield 27, 3) := by decide +kernel
theorem dX7_copyFrom_48 : decode cX7_copyFrom 48 = .ok (.aload_n 0, 1) := by decide +kernel
theorem dX7_copyFrom_49 : decode cX7_copyFrom 49 = .ok (.aload_n 1, 1) := by decide +kernel
theorem dX7_copyFrom_50 : decode cX7_copyFrom 50 = .ok (.getfield 30, 3) := by decide +kernel
theorem dX7_copyFrom_53 : decode cX7_copyFrom 53 = .ok (.putfield 30, 3) := by decide +kernel
theorem dX7_copyFrom_56 : decode cX7_copyFrom 56 = .ok (.aload_n 0, 1) := by decide +kernel
theorem dX7_copyFrom_57 : decode cX7_copyFrom 57 = .ok (.aload_n 1, 1) := by decide +kernel
theorem dX7_copyFrom_58 : decode cX7_copyFrom 58 = .ok (.getfield 33, 3) := by decide +kernel
theorem dX7_copyFrom_61 : decode cX7_copyFrom 61 = .ok (.putfield 33, 3) := by decide +kernel
theorem dX7_copyFrom_64 : decode cX7_copyFrom 64 = .ok (.aload_n 1, 1) := by decide +kernel
theorem dX7_copyFrom_65 : decode cX7_copyFrom 65 = .ok (.getfield 37, 3) := by decide +kernel
theorem dX7_copyFrom_68 : decode cX7_copyFrom 68 = .ok (.iconst 0, 1) := by decide +kernel
theorem dX7_copyFrom_69 : decode cX7_copyFrom 69 = .ok (.aload_n 0, 1) := by decide +kernel
theorem dX7_copyFrom_70 : decode cX7_copyFrom 70 = .ok (.getfield 37, 3) := by decide +kernel
theorem dX7_copyFrom_73 : decode cX7_copyFrom 73 = .ok (.iconst 0, 1) := by decide +kernel
theorem dX7_copyFrom_74 : decode cX7_copyFrom 74 = .ok (.bipush 8, 2) := by decide +kernel
theorem dX7_copyFrom_76 : decode cX7_copyFrom 76 = .ok (.invokestatic 77, 3) := by decide +kernel
theorem dX7_copyFrom_79 : decode cX7_copyFrom 79 = .ok (.aload_n 1, 1) := by decide +kernel
theorem dX7_copyFrom_80 : decode cX7_copyFrom 80 = .ok (.getfield 41, 3) := by decide +kernel
theorem dX7_copyFrom_83 : decode cX7_copyFrom 83 = .ok (.iconst 0, 1) := by decide +kernel
theorem dX7_copyFrom_84 : decode cX7_copyFrom 84 = .ok (.aload_n 0, 1) := by decide +kernel
theorem dX7_copyFrom_85 : decode cX7_copyFrom 85 = .ok (.getfield 41, 3) := by decide +kernel
theorem dX7_copyFrom_88 : decode cX7_copyFrom 88 = .ok (.iconst 0, 1) := by decide +kernel
theorem dX7_copyFrom_89 : decode cX7_copyFrom 89 = .ok (.bipush 8, 2) := by decide +kernel
theorem dX7_copyFrom_91 : decode cX7_copyFrom 91 = .ok (.invokestatic 77, 3) := by decide +kernel
theorem dX7_copyFrom_94 : decode cX7_copyFrom 94 = .ok (.aload_n 1, 1) := by decide +kernel
theorem dX7_copyFrom_95 : decode cX7_copyFrom 95 = .ok (.getfield 44, 3) := by decide +kernel
theorem dX7_copyFrom_98 : decode cX7_copyFrom 98 = .ok (.iconst 0, 1) := by decide +kernel
theorem dX7_copyFrom_99 : decode cX7_copyFrom 99 = .ok (.aload_n 0, 1) := by decide +kernel
theorem dX7_copyFrom_100 : decode cX7_copyFrom 100 = .ok (.getfield 44, 3) := by decide +kernel
theorem dX7_copyFrom_103 : decode cX7_copyFrom 103 = .ok (.iconst 0, 1) := by decide +kernel
theorem dX7_copyFrom_104 : decode cX7_copyFrom 104 = .ok (.bipush 8, 2) := by decide +kernel
theorem dX7_copyFrom_106 : decode cX7_copyFrom 106 = .ok (.invokestatic 77, 3) := by decide +kernel
theorem dX7_copyFrom_109 : decode cX7_copyFrom 109 = .ok (.aload_n 1, 1) := by decide +kernel
theorem dX7_copyFrom_110 : decode cX7_copyFrom 110 = .ok (.getfield 47, 3) := by decide +kernel
theorem dX7_copyFrom_113 : decode cX7_copyFrom 113 = .ok (.iconst 0, 1) := by decide +kernel
theorem dX7_copyFrom_114 : decode cX7_copyFrom 114 = .ok (.aload_n 0, 1) := by decide +kernel
theorem dX7_copyFrom_115 : decode cX7_copyFrom 115 = .ok (.getfield 47, 3) := by decide +kernel
theorem dX7_copyFrom_118 : decode cX7_copyFrom 118 = .ok (.iconst 0, 1) := by decide +kernel
theorem dX7_copyFrom_119 : decode cX7_copyFrom 119 = .ok (.bipush 49, 2) := by decide +kernel
theorem dX7_copyFrom_121 : decode cX7_copyFrom 121 = .ok (.invokestatic 77, 3) := by decide +kernel
theorem dX7_copyFrom_124 : decode cX7_copyFrom 124 = .ok (.aload_n 1, 1) := by decide +kernel
theorem dX7_copyFrom_125 : decode cX7_copyFrom 125 = .ok (.getfield 50, 3) := by decide +kernel
theorem dX7_copyFrom_128 : decode cX7_copyFrom 128 = .ok (.iconst 0, 1) := by decide +kernel
theorem dX7_copyFrom_129 : decode cX7_copyFrom 129 = .ok (.aload_n 0, 1) := by decide +kernel
theorem dX7_copyFrom_130 : decode cX7_copyFrom 130 = .ok (.getfield 50, 3) := by decide +kernel
theorem dX7_copyFrom_133 : decode cX7_copyFrom 133 = .ok (.iconst 0, 1) := by decide +kernel
theorem dX7_copyFrom_134 : decode cX7_copyFrom 134 = .ok (.bipush 49, 2) := by decide +kernel
theorem dX7_copyFrom_136 : decode cX7_copyFrom 136 = .ok (.invokestatic 77, 3) := by decide +kernel
theorem dX7_copyFrom_139 : decode cX7_copyFrom 139 = .ok (.aload_n 1, 1) := by decide +kernel
theorem dX7_copyFrom_140 : decode cX7_copyFrom 140 = .ok (.getfield 53, 3) := by decide +kernel
theorem dX7_copyFrom_143 : decode cX7_copyFrom 143 = .ok (.iconst 0, 1) := by decide +kernel
theorem dX7_copyFrom_144 : decode cX7_copyFrom 144 = .ok (.aload_n 0, 1) := by decide +kernel
theorem dX7_copyFrom_145 : decode cX7_copyFrom 145 = .ok (.getfield 53, 3) := by decide +kernel
theorem dX7_copyFrom_148 : decode cX7_copyFrom 148 = .ok (.iconst 0, 1) := by decide +kernel
theorem dX7_copyFrom_149 : decode cX7_copyFrom 149 = .ok (.bipush 49, 2) := by decide +kernel
theorem dX7_copyFrom_151 : decode cX7_copyFrom 151 = .ok (.invokestatic 77, 3) := by decide +kernel
theorem dX7_copyFrom_154 : decode cX7_copyFrom 154 = .ok (.aload_n 1, 1) := by decide +kernel
theorem dX7_copyFrom_155 : decode cX7_copyFrom 155 = .ok (.getfield 56, 3) := by decide +kernel
theorem dX7_copyFrom_158 : decode cX7_copyFrom 158 = .ok (.iconst 0, 1) := by decide +kernel
theorem dX7_copyFrom_159 : decode cX7_copyFrom 159 = .ok (.aload_n 0, 1) := by decide +kernel
theorem dX7_copyFrom_160 : decode cX7_copyFrom 160 = .ok (.getfield 56, 3) := by decide +kernel
theorem dX7_copyFrom_163 : decode cX7_copyFrom 163 = .ok (.iconst 0, 1) := by decide +kernel
theorem dX7_copyFrom_164 : decode cX7_copyFrom 164 = .ok (.bipush 49, 2) := by decide +kernel
theorem dX7_copyFrom_166 : decode cX7_copyFrom 166 = .ok (.invokestatic 77, 3) := by decide +kernel
theorem dX7_copyFrom_169 : decode cX7_copyFrom 169 = .ok (.aload_n 1, 1) := by decide +kernel
theorem dX7_copyFrom_170 : decode cX7_copyFrom 170 = .ok (.getfield 59, 3) := by decide +kernel
theorem dX7_copyFrom_173 : decode cX7_copyFrom 173 = .ok (.iconst 0, 1) := by decide +kernel
theorem dX7_copyFrom_174 : decode cX7_copyFrom 174 = .ok (.aload_n 0, 1) := by decide +kernel
theorem dX7_copyFrom_175 : decode cX7_copyFrom 175 = .ok (.getfield 59, 3) := by decide +kernel
theorem dX7_copyFrom_178 : decode cX7_copyFrom 178 = .ok (.iconst 0, 1) := by decide +kernel
theorem dX7_copyFrom_179 : decode cX7_copyFrom 179 = .ok (.bipush 49, 2) := by decide +kernel
theorem dX7_copyFrom_181 : decode cX7_copyFrom 181 = .ok (.invokestatic 77, 3) := by decide +kernel
theorem dX7_copyFrom_184 : decode cX7_copyFrom 184 = .ok (.aload_n 1, 1) := by decide +kernel
theorem dX7_copyFrom_185 : decode cX7_copyFrom 185 = .ok (.getfield 62, 3) := by decide +kernel
theorem dX7_copyFrom_188 : decode cX7_copyFrom 188 = .ok (.iconst 0, 1) := by decide +kernel
theorem dX7_copyFrom_189 : decode cX7_copyFrom 189 = .ok (.aload_n 0, 1) := by decide +kernel
theorem dX7_copyFrom_190 : decode cX7_copyFrom 190 = .ok (.getfield 62, 3) := by decide +kernel
theorem dX7_copyFrom_193 : decode cX7_copyFrom 193 = .ok (.iconst 0, 1) := by decide +kernel
theorem dX7_copyFrom_194 : decode cX7_copyFrom 194 = .ok (.bipush 49, 2) := by decide +kernel
theorem dX7_copyFrom_196 : decode cX7_copyFrom 196 = .ok (.invokestatic 77, 3) := by decide +kernel
theorem dX7_copyFrom_199 : decode cX7_copyFrom 199 = .ok (.aload_n 1, 1) := by decide +kernel
theorem dX7_copyFrom_200 : decode cX7_copyFrom 200 = .ok (.getfield 65, 3) := by decide +kernel
theorem dX7_copyFrom_203 : decode cX7_copyFrom 203 = .ok (.iconst 0, 1) := by decide +kernel
theorem dX7_copyFrom_204 : decode cX7_copyFrom 204 = .ok (.aload_n 0, 1) := by decide +kernel
theorem dX7_copyFrom_205 : decode cX7_copyFrom 205 = .ok (.getfield 65, 3) := by decide +kernel
theorem dX7_copyFrom_208 : decode cX7_copyFrom 208 = .ok (.iconst 0, 1) := by decide +kernel
theorem dX7_copyFrom_209 : decode cX7_copyFrom 209 = .ok (.bipush 49, 2) := by decide +kernel
theorem dX7_copyFrom_211 : decode cX7_copyFrom 211 = .ok (.invokestatic 77, 3) := by decide +kernel
theorem dX7_copyFrom_214 : decode cX7_copyFrom 214 = .ok (.return_, 1) := by decide +kernel
theorem dX7_giveBack_0 : decode cX7_giveBack 0 = .ok (.iload_n 1, 1) := by decide +kernel
theorem dX7_giveBack_1 : decode cX7_giveBack 1 = .ok (.bipush 24, 2) := by decide +kernel
theorem dX7_giveBack_3 : decode cX7_giveBack 3 = .ok (.iadd, 1) := by decide +kernel
theorem dX7_giveBack_4 : decode cX7_giveBack 4 = .ok (.istore_n 3, 1) := by decide +kernel
theorem dX7_giveBack_5 : decode cX7_giveBack 5 = .ok (.aload_n 0, 1) := by decide +kernel
theorem dX7_giveBack_6 : decode cX7_giveBack 6 = .ok (.getfield 47, 3) := by decide +kernel
theorem dX7_giveBack_9 : decode cX7_giveBack 9 = .ok (.iload_n 3, 1) := by decide +kernel
theorem dX7_giveBack_10 : decode cX7_giveBack 10 = .ok (.aload_n 0, 1) := by decide +kernel
theorem dX7_giveBack_11 : decode cX7_giveBack 11 = .ok (.getfield 50, 3) := by decide +kernel
theorem dX7_giveBack_14 : decode cX7_giveBack 14 = .ok (.iload_n 1, 1) := by decide +kernel
theorem dX7_giveBack_15 : decode cX7_giveBack 15 = .ok (.iaload, 1) := by decide +kernel
theorem dX7_giveBack_16 : decode cX7_giveBack 16 = .ok (.iastore, 1) := by decide +kernel
theorem dX7_giveBack_17 : decode cX7_giveBack 17 = .ok (.aload_n 0, 1) := by decide +kernel
theorem dX7_giveBack_18 : decode cX7_giveBack 18 = .ok (.getfield 50, 3) := by decide +kernel
theorem dX7_giveBack_21 : decode cX7_giveBack 21 = .ok (.iload_n 3, 1) := by decide +kernel
theorem dX7_giveBack_22 : decode cX7_giveBack 22 = .ok (.aload_n 0, 1) := by decide +kernel
theorem dX7_giveBack_23 : decode cX7_giveBack 23 = .ok (.getfield 47, 3) := by decide +kernel
theorem dX7_giveBack_26 : decode cX7_giveBack 26 = .ok (.iload_n 1, 1) := by decide +kernel
theorem dX7_giveBack_27 : decode cX7_giveBack 27 = .ok (.iaload, 1) := by decide +kernel
theorem dX7_giveBack_28 : decode cX7_giveBack 28 = .ok (.iastore, 1) := by decide +kernel
theorem dX7_giveBack_29 : decode cX7_giveBack 29 = .ok (.aload_n 0, 1) := by decide +kernel
theorem dX7_giveBack_30 : decode cX7_giveBack 30 = .ok (.getfield 56, 3) := by decide +kernel
theorem dX7_giveBack_33 : decode cX7_giveBack 33 = .ok (.iload_n 3, 1) := by decide +kernel
theorem dX7_giveBack_34 : decode cX7_giveBack 34 = .ok (.iload_n 2, 1) := by decide +kernel
theorem dX7_giveBack_35 : decode cX7_giveBack 35 = .ok (.iastore, 1) := by decide +kernel
theorem dX7_giveBack_36 : decode cX7_giveBack 36 = .ok (.return_, 1) := by decide +kernel
theorem dX7_isPerson_0 : decode cX7_isPerson 0 = .ok (.iload_n 1, 1) := by decide +kernel
theorem dX7_isPerson_1 : decode cX7_isPerson 1 = .ok (.ifCond .lt 15, 3) := by decide +kernel
theorem dX7_isPerson_4 : decode cX7_isPerson 4 = .ok (.iload_n 1, 1) := by decide +kernel
theorem dX7_isPerson_5 : decode cX7_isPerson 5 = .ok (.aload_n 0, 1) := by decide +kernel
theorem dX7_isPerson_6 : decode cX7_isPerson 6 = .ok (.getfield 27, 3) := by decide +kernel
theorem dX7_isPerson_9 : decode cX7_isPerson 9 = .ok (.if_icmp .ge 7, 3) := by decide +kernel
theorem dX7_isPerson_12 : decode cX7_isPerson 12 = .ok (.iconst 1, 1) := by decide +kernel
theorem dX7_isPerson_13 : decode cX7_isPerson 13 = .ok (.goto 4, 3) := by decide +kernel
theorem dX7_isPerson_16 : decode cX7_isPerson 16 = .ok (.iconst 0, 1) := by decide +kernel
theorem dX7_isPerson_17 : decode cX7_isPerson 17 = .ok (.ireturn, 1) := by decide +kernel
theorem dX7_isDay_0 : decode cX7_isDay 0 = .ok (.iload_n 1, 1) := by decide +kernel
theorem dX7_isDay_1 : decode cX7_isDay 1 = .ok (.ifCond .lt 15, 3) := by decide +kernel
theorem dX7_isDay_4 : decode cX7_isDay 4 = .ok (.iload_n 1, 1) := by decide +kernel
theorem dX7_isDay_5 : decode cX7_isDay 5 = .ok (.aload_n 0, 1) := by decide +kernel
theorem dX7_isDay_6 : decode cX7_isDay 6 = .ok (.getfield 9, 3) := by decide +kernel
theorem dX7_isDay_9 : decode cX7_isDay 9 = .ok (.if_icmp .ge 7, 3) := by decide +kernel
theorem dX7_isDay_12 : decode cX7_isDay 12 = .ok (.iconst 1, 1) := by decide +kernel
theorem dX7_isDay_13 : decode cX7_isDay 13 = .ok (.goto 4, 3) := by decide +kernel
theorem dX7_isDay_16 : decode cX7_isDay 16 = .ok (.iconst 0, 1) := by decide +kernel
theorem dX7_isDay_17 : decode cX7_isDay 17 = .ok (.ireturn, 1) := by decide +kernel
theorem dX7_isTold_0 : decode cX7_isTold 0 = .ok (.iload_n 1, 1) := by decide +kernel
theorem dX7_isTold_1 : decode cX7_isTold 1 = .ok (.ifCond .lt 15, 3) := by decide +kernel
theorem dX7_isTold_4 : decode cX7_isTold 4 = .ok (.iload_n 1, 1) := by decide +kernel
theorem dX7_isTold_5 : decode cX7_isTold 5 = .ok (.aload_n 0, 1) := by decide +kernel
theorem dX7_isTold_6 : decode cX7_isTold 6 = .ok (.getfield 30, 3) := by decide +kernel
theorem dX7_isTold_9 : decode cX7_isTold 9 = .ok (.if_icmp .ge 7, 3) := by decide +kernel
theorem dX7_isTold_12 : decode cX7_isTold 12 = .ok (.iconst 1, 1) := by decide +kernel
theorem dX7_isTold_13 : decode cX7_isTold 13 = .ok (.goto 4, 3) := by decide +kernel
theorem dX7_isTold_16 : decode cX7_isTold 16 = .ok (.iconst 0, 1) := by decide +kernel
theorem dX7_isTold_17 : decode cX7_isTold 17 = .ok (.ireturn, 1) := by decide +kernel
theorem dX7_isLetter_0 : decode cX7_isLetter 0 = .ok (.aload_n 0, 1) := by decide +kernel
theorem dX7_isLetter_1 : decode cX7_isLetter 1 = .ok (.iload_n 1, 1) := by decide +kernel
theorem dX7_isLetter_2 : decode cX7_isLetter 2 = .ok (.invokevirtual 83, 3) := by decide +kernel
theorem dX7_isLetter_5 : decode cX7_isLetter 5 = .ok (.ifCond .ne 24, 3) := by decide +kernel
theorem dX7_isLetter_8 : decode cX7_isLetter 8 = .ok (.iload_n 1, 1) := by decide +kernel
theorem dX7_isLetter_9 : decode cX7_isLetter 9 = .ok (.bipush 24, 2) := by decide +kernel
theorem dX7_isLetter_11 : decode cX7_isLetter 11 = .ok (.if_icmp .lt 22, 3) := by decide +kernel
theorem dX7_isLetter_14 : decode cX7_isLetter 14 = .ok (.iload_n 1, 1) := by decide +kernel
theorem dX7_isLetter_15 : decode cX7_isLetter 15 = .ok (.bipush 48, 2) := by decide +kernel
theorem dX7_isLetter_17 : decode cX7_isLetter 17 = .ok (.if_icmp .ge 16, 3) := by decide +kernel
theorem dX7_isLetter_20 : decode cX7_isLetter 20 = .ok (.aload_n 0, 1) := by decide +kernel
theorem dX7_isLetter_21 : decode cX7_isLetter 21 = .ok (.getfield 56, 3) := by decide +kernel
theorem dX7_isLetter_24 : decode cX7_isLetter 24 = .ok (.iload_n 1, 1) := by decide +kernel
theorem dX7_isLetter_25 : decode cX7_isLetter 25 = .ok (.iaload, 1) := by decide +kernel
theorem dX7_isLetter_26 : decode cX7_isLetter 26 = .ok (.ifCond .le 7, 3) := by decide +kernel
theorem dX7_isLetter_29 : decode cX7_isLetter 29 = .ok (.iconst 1, 1) := by decide +kernel
theorem dX7_isLetter_30 : decode cX7_isLetter 30 = .ok (.goto 4, 3) := by decide +kernel
theorem dX7_isLetter_33 : decode cX7_isLetter 33 = .ok (.iconst 0, 1) := by decide +kernel
theorem dX7_isLetter_34 : decode cX7_isLetter 34 = .ok (.ireturn, 1) := by decide +kernel
theorem dX7_hoursNeeded_0 : decode cX7_hoursNeeded 0 = .ok (.aload_n 0, 1) := by decide +kernel
theorem dX7_hoursNeeded_1 : decode cX7_hoursNeeded 1 = .ok (.getfield 56, 3) := by decide +kernel
theorem dX7_hoursNeeded_4 : decode cX7_hoursNeeded 4 = .ok (.iload_n 1, 1) := by decide +kernel
theorem dX7_hoursNeeded_5 : decode cX7_hoursNeeded 5 = .ok (.iaload, 1) := by decide +kernel
theorem dX7_hoursNeeded_6 : decode cX7_hoursNeeded 6 = .ok (.istore_n 2, 1) := by decide +kernel
theorem dX7_hoursNeeded_7 : decode cX7_hoursNeeded 7 = .ok (.aload_n 0, 1) := by decide +kernel
theorem dX7_hoursNeeded_8 : decode cX7_hoursNeeded 8 = .ok (.getfield 41, 3) := by decide +kernel
theorem dX7_hoursNeeded_11 : decode cX7_hoursNeeded 11 = .ok (.aload_n 0, 1) := by decide +kernel
theorem dX7_hoursNeeded_12 : decode cX7_hoursNeeded 12 = .ok (.getfield 50, 3) := by decide +kernel
theorem dX7_hoursNeeded_15 : decode cX7_hoursNeeded 15 = .ok (.iload_n 1, 1) := by decide +kernel
theorem dX7_hoursNeeded_16 : decode cX7_hoursNeeded 16 = .ok (.iaload, 1) := by decide +kernel
theorem dX7_hoursNeeded_17 : decode cX7_hoursNeeded 17 = .ok (.iaload, 1) := by decide +kernel
theorem dX7_hoursNeeded_18 : decode cX7_hoursNeeded 18 = .ok (.lookupswitch 51 #[(1, 26), (3, 32)], 26) := by decide +kernel
theorem dX7_hoursNeeded_44 : decode cX7_hoursNeeded 44 = .ok (.iload_n 2, 1) := by decide +kernel
theorem dX7_hoursNeeded_45 : decode cX7_hoursNeeded 45 = .ok (.iconst 1, 1) := by decide +kernel
theorem dX7_hoursNeeded_46 : decode cX7_hoursNeeded 46 = .ok (.iadd, 1) := by decide +kernel
theorem dX7_hoursNeeded_47 : decode cX7_hoursNeeded 47 = .ok (.iconst 2, 1) := by decide +kernel
theorem dX7_hoursNeeded_48 : decode cX7_hoursNeeded 48 = .ok (.idiv, 1) := by decide +kernel
theorem dX7_hoursNeeded_49 : decode cX7_hoursNeeded 49 = .ok (.ireturn, 1) := by decide +kernel
theorem dX7_hoursNeeded_50 : decode cX7_hoursNeeded 50 = .ok (.aload_n 0, 1) := by decide +kernel
theorem dX7_hoursNeeded_51 : decode cX7_hoursNeeded 51 = .ok (.getfield 62, 3) := by decide +kernel
theorem dX7_hoursNeeded_54 : decode cX7_hoursNeeded 54 = .ok (.iload_n 1, 1) := by decide +kernel
theorem dX7_hoursNeeded_55 : decode cX7_hoursNeeded 55 = .ok (.iaload, 1) := by decide +kernel
theorem dX7_hoursNeeded_56 : decode cX7_hoursNeeded 56 = .ok (.bipush 50, 2) := by decide +kernel
theorem dX7_hoursNeeded_58 : decode cX7_hoursNeeded 58 = .ok (.if_icmp .lt 9, 3) := by decide +kernel
theorem dX7_hoursNeeded_61 : decode cX7_hoursNeeded 61 = .ok (.iconst 2, 1) := by decide +kernel
theorem dX7_hoursNeeded_62 : decode cX7_hoursNeeded 62 = .ok (.iload_n 2, 1) := by decide +kernel
theorem dX7_hoursNeeded_63 : decode cX7_hoursNeeded 63 = .ok (.imul, 1) := by decide +kernel
theorem dX7_hoursNeeded_64 : decode cX7_hoursNeeded 64 = .ok (.goto 4, 3) := by decide +kernel
theorem dX7_hoursNeeded_67 : decode cX7_hoursNeeded 67 = .ok (.iload_n 2, 1) := by decide +kernel
theorem dX7_hoursNeeded_68 : decode cX7_hoursNeeded 68 = .ok (.ireturn, 1) := by decide +kernel
theorem dX7_hoursNeeded_69 : decode cX7_hoursNeeded 69 = .ok (.iload_n 2, 1) := by decide +kernel
theorem dX7_hoursNeeded_70 : decode cX7_hoursNeeded 70 = .ok (.ireturn, 1) := by decide +kernel
theorem dX8_init_0 : decode cX8_init 0 = .ok (.aload_n 0, 1) := by decide +kernel
theorem dX8_init_1 : decode cX8_init 1 = .ok (.invokespecial 1, 3) := by decide +kernel
theorem dX8_init_4 : decode cX8_init 4 = .ok (.aload_n 0, 1) := by decide +kernel
theorem dX8_init_5 : decode cX8_init 5 = .ok (.new 7, 3) := by decide +kernel
theorem dX8_init_8 : decode cX8_init 8 = .ok (.dup, 1) := by decide +kernel
theorem dX8_init_9 : decode cX8_init 9 = .ok (.invokespecial 9, 3) := by decide +kernel
theorem dX8_init_12 : decode cX8_init 12 = .ok (.putfield 10, 3) := by decide +kernel
theorem dX8_init_15 : decode cX8_init 15 = .ok (.aload_n 0, 1) := by decide +kernel
theorem dX8_init_16 : decode cX8_init 16 = .ok (.new 16, 3) := by decide +kernel
theorem dX8_init_19 : decode cX8_init 19 = .ok (.dup, 1) := by decide +kernel
theorem dX8_init_20 : decode cX8_init 20 = .ok (.aload_n 0, 1) := by decide +kernel
theorem dX8_init_21 : decode cX8_init 21 = .ok (.getfield 10, 3) := by decide +kernel
theorem dX8_init_24 : decode cX8_init 24 = .ok (.invokespecial 18, 3) := by decide +kernel
theorem dX8_init_27 : decode cX8_init 27 = .ok (.putfield 21, 3) := by decide +kernel
theorem dX8_init_30 : decode cX8_init 30 = .ok (.aload_n 0, 1) := by decide +kernel
theorem dX8_init_31 : decode cX8_init 31 = .ok (.new 25, 3) := by decide +kernel
theorem dX8_init_34 : decode cX8_init 34 = .ok (.dup, 1) := by decide +kernel
theorem dX8_init_35 : decode cX8_init 35 = .ok (.invokespecial 27, 3) := by decide +kernel
theorem dX8_init_38 : decode cX8_init 38 = .ok (.putfield 28, 3) := by decide +kernel
theorem dX8_init_41 : decode cX8_init 41 = .ok (.aload_n 0, 1) := by decide +kernel
theorem dX8_init_42 : decode cX8_init 42 = .ok (.iconst 3, 1) := by decide +kernel
theorem dX8_init_43 : decode cX8_init 43 = .ok (.anewarray 25, 3) := by decide +kernel
theorem dX8_init_46 : decode cX8_init 46 = .ok (.putfield 32, 3) := by decide +kernel
theorem dX8_init_49 : decode cX8_init 49 = .ok (.aload_n 0, 1) := by decide +kernel
theorem dX8_init_50 : decode cX8_init 50 = .ok (.iconst 3, 1) := by decide +kernel
theorem dX8_init_51 : decode cX8_init 51 = .ok (.newarray .boolean, 2) := by decide +kernel
theorem dX8_init_53 : decode cX8_init 53 = .ok (.putfield 36, 3) := by decide +kernel
theorem dX8_init_56 : decode cX8_init 56 = .ok (.aload_n 0, 1) := by decide +kernel
theorem dX8_init_57 : decode cX8_init 57 = .ok (.iconst 4, 1) := by decide +kernel
theorem dX8_init_58 : decode cX8_init 58 = .ok (.anewarray 40, 3) := by decide +kernel
theorem dX8_init_61 : decode cX8_init 61 = .ok (.putfield 42, 3) := by decide +kernel
theorem dX8_init_64 : decode cX8_init 64 = .ok (.aload_n 0, 1) := by decide +kernel
theorem dX8_init_65 : decode cX8_init 65 = .ok (.new 46, 3) := by decide +kernel
theorem dX8_init_68 : decode cX8_init 68 = .ok (.dup, 1) := by decide +kernel
theorem dX8_init_69 : decode cX8_init 69 = .ok (.invokespecial 48, 3) := by decide +kernel
theorem dX8_init_72 : decode cX8_init 72 = .ok (.putfield 49, 3) := by decide +kernel
theorem dX8_init_75 : decode cX8_init 75 = .ok (.aload_n 0, 1) := by decide +kernel
theorem dX8_init_76 : decode cX8_init 76 = .ok (.new 53, 3) := by decide +kernel
theorem dX8_init_79 : decode cX8_init 79 = .ok (.dup, 1) := by decide +kernel
theorem dX8_init_80 : decode cX8_init 80 = .ok (.aload_n 0, 1) := by decide +kernel
theorem dX8_init_81 : decode cX8_init 81 = .ok (.getfield 49, 3) := by decide +kernel
theorem dX8_init_84 : decode cX8_init 84 = .ok (.invokespecial 55, 3) := by decide +kernel
theorem dX8_init_87 : decode cX8_init 87 = .ok (.putfield 58, 3) := by decide +kernel
theorem dX8_init_90 : decode cX8_init 90 = .ok (.aload_n 0, 1) := by decide +kernel
theorem dX8_init_91 : decode cX8_init 91 = .ok (.new 53, 3) := by decide +kernel
theorem dX8_init_94 : decode cX8_init 94 = .ok (.dup, 1) := by decide +kernel
theorem dX8_init_95 : decode cX8_init 95 = .ok (.aconst_null, 1) := by decide +kernel
theorem dX8_init_96 : decode cX8_init 96 = .ok (.invokespecial 55, 3) := by decide +kernel
theorem dX8_init_99 : decode cX8_init 99 = .ok (.putfield 62, 3) := by decide +kernel
theorem dX8_init_102 : decode cX8_init 102 = .ok (.aload_n 0, 1) := by decide +kernel
theorem dX8_init_103 : decode cX8_init 103 = .ok (.new 65, 3) := by decide +kernel
theorem dX8_init_106 : decode cX8_init 106 = .ok (.dup, 1) := by decide +kernel
theorem dX8_init_107 : decode cX8_init 107 = .ok (.invokespecial 67, 3) := by decide +kernel
theorem dX8_init_110 : decode cX8_init 110 = .ok (.putfield 68, 3) := by decide +kernel
theorem dX8_init_113 : decode cX8_init 113 = .ok (.aload_n 0, 1) := by decide +kernel
theorem dX8_init_114 : decode cX8_init 114 = .ok (.new 72, 3) := by decide +kernel
theorem dX8_init_117 : decode cX8_init 117 = .ok (.dup, 1) := by decide +kernel
theorem dX8_init_118 : decode cX8_init 118 = .ok (.invokespecial 74, 3) := by decide +kernel
theorem dX8_init_121 : decode cX8_init 121 = .ok (.putfield 75, 3) := by decide +kernel
theorem dX8_init_124 : decode cX8_init 124 = .ok (.aload_n 0, 1) := by decide +kernel
theorem dX8_init_125 : decode cX8_init 125 = .ok (.bipush 12, 2) := by decide +kernel
theorem dX8_init_127 : decode cX8_init 127 = .ok (.newarray .int, 2) := by decide +kernel
theorem dX8_init_129 : decode cX8_init 129 = .ok (.putfield 79, 3) := by decide +kernel
theorem dX8_init_132 : decode cX8_init 132 = .ok (.aload_n 0, 1) := by decide +kernel
theorem dX8_init_133 : decode cX8_init 133 = .ok (.iconst 0, 1) := by decide +kernel
theorem dX8_init_134 : decode cX8_init 134 = .ok (.putfield 83, 3) := by decide +kernel
theorem dX8_init_137 : decode cX8_init 137 = .ok (.aload_n 0, 1) := by decide +kernel
theorem dX8_init_138 : decode cX8_init 138 = .ok (.iconst 0, 1) := by decide +kernel
theorem dX8_init_139 : decode cX8_init 139 = .ok (.putfield 87, 3) := by decide +kernel
theorem dX8_init_142 : decode cX8_init 142 = .ok (.aload_n 0, 1) := by decide +kernel
theorem dX8_init_143 : decode cX8_init 143 = .ok (.iconst (-1), 1) := by decide +kernel
theorem dX8_init_144 : decode cX8_init 144 = .ok (.putfield 90, 3) := by decide +kernel
theorem dX8_init_147 : decode cX8_init 147 = .ok (.iconst 0, 1) := by decide +kernel
theorem dX8_init_148 : decode cX8_init 148 = .ok (.istore_n 1, 1) := by decide +kernel
theorem dX8_init_149 : decode cX8_init 149 = .ok (.iload_n 1, 1) := by decide +kernel
theorem dX8_init_150 : decode cX8_init 150 = .ok (.iconst 3, 1) := by decide +kernel
theorem dX8_init_151 : decode cX8_init 151 = .ok (.if_icmp .ge 22, 3) := by decide +kernel
theorem dX8_init_154 : decode cX8_init 154 = .ok (.aload_n 0, 1) := by decide +kernel
theorem dX8_init_155 : decode cX8_init 155 = .ok (.getfield 32, 3) := by decide +kernel
theorem dX8_init_158 : decode cX8_init 158 = .ok (.iload_n 1, 1) := by decide +kernel
theorem dX8_init_159 : decode cX8_init 159 = .ok (.new 25, 3) := by decide +kernel
theorem dX8_init_162 : decode cX8_init 162 = .ok (.dup, 1) := by decide +kernel
theorem dX8_init_163 : decode cX8_init 163 = .ok (.invokespecial 27, 3) := by decide +kernel
theorem dX8_init_166 : decode cX8_init 166 = .ok (.aastore, 1) := by decide +kernel
theorem dX8_init_167 : decode cX8_init 167 = .ok (.iinc 1 1, 3) := by decide +kernel
theorem dX8_init_170 : decode cX8_init 170 = .ok (.goto (-21), 3) := by decide +kernel
theorem dX8_init_173 : decode cX8_init 173 = .ok (.iconst 0, 1) := by decide +kernel
theorem dX8_init_174 : decode cX8_init 174 = .ok (.istore_n 1, 1) := by decide +kernel
theorem dX8_init_175 : decode cX8_init 175 = .ok (.iload_n 1, 1) := by decide +kernel
theorem dX8_init_176 : decode cX8_init 176 = .ok (.iconst 4, 1) := by decide +kernel
theorem dX8_init_177 : decode cX8_init 177 = .ok (.if_icmp .ge 22, 3) := by decide +kernel
theorem dX8_init_180 : decode cX8_init 180 = .ok (.aload_n 0, 1) := by decide +kernel
theorem dX8_init_181 : decode cX8_init 181 = .ok (.getfield 42, 3) := by decide +kernel
theorem dX8_init_184 : decode cX8_init 184 = .ok (.iload_n 1, 1) := by decide +kernel
theorem dX8_init_185 : decode cX8_init 185 = .ok (.new 40, 3) := by decide +kernel
theorem dX8_init_188 : decode cX8_init 188 = .ok (.dup, 1) := by decide +kernel
theorem dX8_init_189 : decode cX8_init 189 = .ok (.invokespecial 94, 3) := by decide +kernel
theorem dX8_init_192 : decode cX8_init 192 = .ok (.aastore, 1) := by decide +kernel
theorem dX8_init_193 : decode cX8_init 193 = .ok (.iinc 1 1, 3) := by decide +kernel
theorem dX8_init_196 : decode cX8_init 196 = .ok (.goto (-21), 3) := by decide +kernel
theorem dX8_init_199 : decode cX8_init 199 = .ok (.return_, 1) := by decide +kernel
theorem dX8_feed_0 : decode cX8_feed 0 = .ok (.aload_n 0, 1) := by decide +kernel
theorem dX8_feed_1 : decode cX8_feed 1 = .ok (.getfield 10, 3) := by decide +kernel
theorem dX8_feed_4 : decode cX8_feed 4 = .ok (.invokevirtual 95, 3) := by decide +kernel
theorem dX8_feed_7 : decode cX8_feed 7 = .ok (.ifCond .ne 5, 3) := by decide +kernel
theorem dX8_feed_10 : decode cX8_feed 10 = .ok (.iconst (-1), 1) := by decide +kernel
theorem dX8_feed_11 : decode cX8_feed 11 = .ok (.ireturn, 1) := by decide +kernel
theorem dX8_feed_12 : decode cX8_feed 12 = .ok (.aload_n 0, 1) := by decide +kernel
theorem dX8_feed_13 : decode cX8_feed 13 = .ok (.getfield 10, 3) := by decide +kernel
theorem dX8_feed_16 : decode cX8_feed 16 = .ok (.iload_n 1, 1) := by decide +kernel
theorem dX8_feed_17 : decode cX8_feed 17 = .ok (.invokevirtual 99, 3) := by decide +kernel
theorem dX8_feed_20 : decode cX8_feed 20 = .ok (.aload_n 0, 1) := by decide +kernel
theorem dX8_feed_21 : decode cX8_feed 21 = .ok (.getfield 10, 3) := by decide +kernel
theorem dX8_feed_24 : decode cX8_feed 24 = .ok (.iload_n 2, 1) := by decide +kernel
theorem dX8_feed_25 : decode cX8_feed 25 = .ok (.invokevirtual 99, 3) := by decide +kernel
theorem dX8_feed_28 : decode cX8_feed 28 = .ok (.aload_n 0, 1) := by decide +kernel
theorem dX8_feed_29 : decode cX8_feed 29 = .ok (.getfield 10, 3) := by decide +kernel
theorem dX8_feed_32 : decode cX8_feed 32 = .ok (.iload_n 3, 1) := by decide +kernel
theorem dX8_feed_33 : decode cX8_feed 33 = .ok (.invokevirtual 99, 3) := by decide +kernel
theorem dX8_feed_36 : decode cX8_feed 36 = .ok (.aload_n 0, 1) := by decide +kernel
theorem dX8_feed_37 : decode cX8_feed 37 = .ok (.getfield 10, 3) := by decide +kernel
theorem dX8_feed_40 : decode cX8_feed 40 = .ok (.iload 4, 2) := by decide +kernel
theorem dX8_feed_42 : decode cX8_feed 42 = .ok (.invokevirtual 99, 3) := by decide +kernel
theorem dX8_feed_45 : decode cX8_feed 45 = .ok (.aload_n 0, 1) := by decide +kernel
theorem dX8_feed_46 : decode cX8_feed 46 = .ok (.getfield 10, 3) := by decide +kernel
theorem dX8_feed_49 : decode cX8_feed 49 = .ok (.iload 5, 2) := by decide +kernel
theorem dX8_feed_51 : decode cX8_feed 51 = .ok (.invokevirtual 99, 3) := by decide +kernel
theorem dX8_feed_54 : decode cX8_feed 54 = .ok (.aload_n 0, 1) := by decide +kernel
theorem dX8_feed_55 : decode cX8_feed 55 = .ok (.getfield 10, 3) := by decide +kernel
theorem dX8_feed_58 : decode cX8_feed 58 = .ok (.getfield 103, 3) := by decide +kernel
theorem dX8_feed_61 : decode cX8_feed 61 = .ok (.ireturn, 1) := by decide +kernel
theorem dX8_end_0 : decode cX8_end 0 = .ok (.iload_n 1, 1) := by decide +kernel
theorem dX8_end_1 : decode cX8_end 1 = .ok (.ifCond .lt 14, 3) := by decide +kernel
theorem dX8_end_4 : decode cX8_end 4 = .ok (.iload_n 1, 1) := by decide +kernel
theorem dX8_end_5 : decode cX8_end 5 = .ok (.aload_n 0, 1) := by decide +kernel
theorem dX8_end_6 : decode cX8_end 6 = .ok (.getfield 10, 3) := by decide +kernel
theorem dX8_end_9 : decode cX8_end 9 = .ok (.getfield 103, 3) := by decide +kernel
theorem dX8_end_12 : decode cX8_end 12 = .ok (.if_icmp .le 5, 3) := by decide +kernel
theorem dX8_end_15 : decode cX8_end 15 = .ok (.iconst (-1), 1) := by decide +kernel
theorem dX8_end_16 : decode cX8_end 16 = .ok (.ireturn, 1) := by decide +kernel
theorem dX8_end_17 : decode cX8_end 17 = .ok (.aload_n 0, 1) := by decide +kernel
theorem dX8_end_18 : decode cX8_end 18 = .ok (.getfield 10, 3) := by decide +kernel
theorem dX8_end_21 : decode cX8_end 21 = .ok (.iload_n 1, 1) := by decide +kernel
theorem dX8_end_22 : decode cX8_end 22 = .ok (.putfield 103, 3) := by decide +kernel
theorem dX8_end_25 : decode cX8_end 25 = .ok (.iload_n 1, 1) := by decide +kernel
theorem dX8_end_26 : decode cX8_end 26 = .ok (.ireturn, 1) := by decide +kernel
theorem dX8_town_0 : decode cX8_town 0 = .ok (.aload_n 0, 1) := by decide +kernel
theorem dX8_town_1 : decode cX8_town 1 = .ok (.getfield 21, 3) := by decide +kernel
theorem dX8_town_4 : decode cX8_town 4 = .ok (.invokevirtual 106, 3) := by decide +kernel
theorem dX8_town_7 : decode cX8_town 7 = .ok (.ifCond .ne 6, 3) := by decide +kernel
theorem dX8_town_10 : decode cX8_town 10 = .ok (.bipush (-4), 2) := by decide +kernel
theorem dX8_town_12 : decode cX8_town 12 = .ok (.ireturn, 1) := by decide +kernel
theorem dX8_town_13 : decode cX8_town 13 = .ok (.aload_n 0, 1) := by decide +kernel
theorem dX8_town_14 : decode cX8_town 14 = .ok (.getfield 28, 3) := by decide +kernel
theorem dX8_town_17 : decode cX8_town 17 = .ok (.aload_n 0, 1) := by decide +kernel
theorem dX8_town_18 : decode cX8_town 18 = .ok (.getfield 21, 3) := by decide +kernel
theorem dX8_town_21 : decode cX8_town 21 = .ok (.getfield 109, 3) := by decide +kernel
theorem dX8_town_24 : decode cX8_town 24 = .ok (.invokevirtual 112, 3) := by decide +kernel
theorem dX8_town_27 : decode cX8_town 27 = .ok (.aload_n 0, 1) := by decide +kernel
theorem dX8_town_28 : decode cX8_town 28 = .ok (.getfield 10, 3) := by decide +kernel
theorem dX8_town_31 : decode cX8_town 31 = .ok (.iconst 0, 1) := by decide +kernel
theorem dX8_town_32 : decode cX8_town 32 = .ok (.putfield 103, 3) := by decide +kernel
theorem dX8_town_35 : decode cX8_town 35 = .ok (.aload_n 0, 1) := by decide +kernel
theorem dX8_town_36 : decode cX8_town 36 = .ok (.invokevirtual 116, 3) := by decide +kernel
theorem dX8_town_39 : decode cX8_town 39 = .ok (.aload_n 0, 1) := by decide +kernel
theorem dX8_town_40 : decode cX8_town 40 = .ok (.getfield 28, 3) := by decide +kernel
theorem dX8_town_43 : decode cX8_town 43 = .ok (.getfield 119, 3) := by decide +kernel
theorem dX8_town_46 : decode cX8_town 46 = .ok (.ireturn, 1) := by decide +kernel
theorem dX8_fault_0 : decode cX8_fault 0 = .ok (.iload_n 1, 1) := by decide +kernel
theorem dX8_fault_1 : decode cX8_fault 1 = .ok (.ifCond .ne 11, 3) := by decide +kernel
theorem dX8_fault_4 : decode cX8_fault 4 = .ok (.aload_n 0, 1) := by decide +kernel
theorem dX8_fault_5 : decode cX8_fault 5 = .ok (.getfield 21, 3) := by decide +kernel
theorem dX8_fault_8 : decode cX8_fault 8 = .ok (.getfield 122, 3) := by decide +kernel
theorem dX8_fault_11 : decode cX8_fault 11 = .ok (.ireturn, 1) := by decide +kernel
theorem dX8_fault_12 : decode cX8_fault 12 = .ok (.iload_n 1, 1) := by decide +kernel
theorem dX8_fault_13 : decode cX8_fault 13 = .ok (.iconst 1, 1) := by decide +kernel
theorem dX8_fault_14 : decode cX8_fault 14 = .ok (.if_icmp .ne 13, 3) := by decide +kernel
theorem dX8_fault_17 : decode cX8_fault 17 = .ok (.aload_n 0, 1) := by decide +kernel
theorem dX8_fault_18 : decode cX8_fault 18 = .ok (.getfield 21, 3) := by decide +kernel
theorem dX8_fault_21 : decode cX8_fault 21 = .ok (.getfield 125, 3) := by decide +kernel
theorem dX8_fault_24 : decode cX8_fault 24 = .ok (.goto 4, 3) := by decide +kernel
theorem dX8_fault_27 : decode cX8_fault 27 = .ok (.iconst (-1), 1) := by decide +kernel
theorem dX8_fault_28 : decode cX8_fault 28 = .ok (.ireturn, 1) := by decide +kernel
theorem dX8_person_0 : decode cX8_person 0 = .ok (.aload_n 0, 1) := by decide +kernel
theorem dX8_person_1 : decode cX8_person 1 = .ok (.getfield 28, 3) := by decide +kernel
theorem dX8_person_4 : decode cX8_person 4 = .ok (.iload_n 1, 1) := by decide +kernel
theorem dX8_person_5 : decode cX8_person 5 = .ok (.invokevirtual 128, 3) := by decide +kernel
theorem dX8_person_8 : decode cX8_person 8 = .ok (.ifCond .ne 6, 3) := by decide +kernel
theorem dX8_person_11 : decode cX8_person 11 = .ok (.bipush (-2), 2) := by decide +kernel
theorem dX8_person_13 : decode cX8_person 13 = .ok (.ireturn, 1) := by decide +kernel
theorem dX8_person_14 : decode cX8_person 14 = .ok (.iload_n 2, 1) := by decide +kernel
theorem dX8_person_15 : decode cX8_person 15 = .ok (.tableswitch 55 0 2 #[25, 35, 45], 25) := by decide +kernel
theorem dX8_person_40 : decode cX8_person 40 = .ok (.aload_n 0, 1) := by decide +kernel
theorem dX8_person_41 : decode cX8_person 41 = .ok (.getfield 28, 3) := by decide +kernel
theorem dX8_person_44 : decode cX8_person 44 = .ok (.getfield 132, 3) := by decide +kernel
theorem dX8_person_47 : decode cX8_person 47 = .ok (.iload_n 1, 1) := by decide +kernel
theorem dX8_person_48 : decode cX8_person 48 = .ok (.iaload, 1) := by decide +kernel
theorem dX8_person_49 : decode cX8_person 49 = .ok (.ireturn, 1) := by decide +kernel
theorem dX8_person_50 : decode cX8_person 50 = .ok (.aload_n 0, 1) := by decide +kernel
theorem dX8_person_51 : decode cX8_person 51 = .ok (.getfield 28, 3) := by decide +kernel
theorem dX8_person_54 : decode cX8_person 54 = .ok (.getfield 135, 3) := by decide +kernel
theorem dX8_person_57 : decode cX8_person 57 = .ok (.iload_n 1, 1) := by decide +kernel
theorem dX8_person_58 : decode cX8_person 58 = .ok (.iaload, 1) := by decide +kernel
theorem dX8_person_59 : decode cX8_person 59 = .ok (.ireturn, 1) := by decide +kernel
theorem dX8_person_60 : decode cX8_person 60 = .ok (.aload_n 0, 1) := by decide +kernel
theorem dX8_person_61 : decode cX8_person 61 = .ok (.getfield 28, 3) := by decide +kernel
theorem dX8_person_64 : decode cX8_person 64 = .ok (.getfield 138, 3) := by decide +kernel
theorem dX8_person_67 : decode cX8_person 67 = .ok (.iload_n 1, 1) := by decide +kernel
theorem dX8_person_68 : decode cX8_person 68 = .ok (.iaload, 1) := by decide +kernel
theorem dX8_person_69 : decode cX8_person 69 = .ok (.ireturn, 1) := by decide +kernel
theorem dX8_person_70 : decode cX8_person 70 = .ok (.bipush (-2), 2) := by decide +kernel
theorem dX8_person_72 : decode cX8_person 72 = .ok (.ireturn, 1) := by decide +kernel
theorem dX8_letter_0 : decode cX8_letter 0 = .ok (.aload_n 0, 1) := by decide +kernel
theorem dX8_letter_1 : decode cX8_letter 1 = .ok (.getfield 28, 3) := by decide +kernel
theorem dX8_letter_4 : decode cX8_letter 4 = .ok (.iload_n 1, 1) := by decide +kernel
theorem dX8_letter_5 : decode cX8_letter 5 = .ok (.invokevirtual 141, 3) := by decide +kernel
theorem dX8_letter_8 : decode cX8_letter 8 = .ok (.ifCond .ne 6, 3) := by decide +kernel
theorem dX8_letter_11 : decode cX8_letter 11 = .ok (.bipush (-2), 2) := by decide +kernel
theorem dX8_letter_13 : decode cX8_letter 13 = .ok (.ireturn, 1) := by decide +kernel
theorem dX8_letter_14 : decode cX8_letter 14 = .ok (.iload_n 2, 1) := by decide +kernel
theorem dX8_letter_15 : decode cX8_letter 15 = .ok (.tableswitch 156 0 7 #[45, 55, 65, 93, 103, 126, 136, 146], 45) := by decide +kernel
theorem dX8_letter_60 : decode cX8_letter 60 = .ok (.aload_n 0, 1) := by decide +kernel
theorem dX8_letter_61 : decode cX8_letter 61 = .ok (.getfield 28, 3) := by decide +kernel
theorem dX8_letter_64 : decode cX8_letter 64 = .ok (.getfield 144, 3) := by decide +kernel
theorem dX8_letter_67 : decode cX8_letter 67 = .ok (.iload_n 1, 1) := by decide +kernel
theorem dX8_letter_68 : decode cX8_letter 68 = .ok (.iaload, 1) := by decide +kernel
theorem dX8_letter_69 : decode cX8_letter 69 = .ok (.ireturn, 1) := by decide +kernel
theorem dX8_letter_70 : decode cX8_letter 70 = .ok (.aload_n 0, 1) := by decide +kernel
theorem dX8_letter_71 : decode cX8_letter 71 = .ok (.getfield 28, 3) := by decide +kernel
theorem dX8_letter_74 : decode cX8_letter 74 = .ok (.getfield 147, 3) := by decide +kernel
theorem dX8_letter_77 : decode cX8_letter 77 = .ok (.iload_n 1, 1) := by decide +kernel
theorem dX8_letter_78 : decode cX8_letter 78 = .ok (.iaload, 1) := by decide +kernel
theorem dX8_letter_79 : decode cX8_letter 79 = .ok (.ireturn, 1) := by decide +kernel
theorem dX8_letter_80 : decode cX8_letter 80 = .ok (.iload_n 1, 1) := by decide +kernel
theorem dX8_letter_81 : decode cX8_letter 81 = .ok (.bipush 24, 2) := by decide +kernel
theorem dX8_letter_83 : decode cX8_letter 83 = .ok (.if_icmp .ge 15, 3) := by decide +kernel
theorem dX8_letter_86 : decode cX8_letter 86 = .ok (.aload_n 0, 1) := by decide +kernel
theorem dX8_letter_87 : decode cX8_letter 87 = .ok (.getfield 28, 3) := by decide +kernel
theorem dX8_letter_90 : decode cX8_letter 90 = .ok (.getfield 150, 3) := by decide +kernel
theorem dX8_letter_93 : decode cX8_letter 93 = .ok (.iload_n 1, 1) := by decide +kernel
theorem dX8_letter_94 : decode cX8_letter 94 = .ok (.iaload, 1) := by decide +kernel
theorem dX8_letter_95 : decode cX8_letter 95 = .ok (.goto 12, 3) := by decide +kernel
theorem dX8_letter_98 : decode cX8_letter 98 = .ok (.aload_n 0, 1) := by decide +kernel
theorem dX8_letter_99 : decode cX8_letter 99 = .ok (.invokevirtual 153, 3) := by decide +kernel
theorem dX8_letter_102 : decode cX8_letter 102 = .ok (.getfield 157, 3) := by decide +kernel
theorem dX8_letter_105 : decode cX8_letter 105 = .ok (.iload_n 1, 1) := by decide +kernel
theorem dX8_letter_106 : decode cX8_letter 106 = .ok (.iaload, 1) := by decide +kernel
theorem dX8_letter_107 : decode cX8_letter 107 = .ok (.ireturn, 1) := by decide +kernel
theorem dX8_letter_108 : decode cX8_letter 108 = .ok (.aload_n 0, 1) := by decide +kernel
theorem dX8_letter_109 : decode cX8_letter 109 = .ok (.getfield 28, 3) := by decide +kernel
theorem dX8_letter_112 : decode cX8_letter 112 = .ok (.getfield 160, 3) := by decide +kernel
theorem dX8_letter_115 : decode cX8_letter 115 = .ok (.iload_n 1, 1) := by decide +kernel
theorem dX8_letter_116 : decode cX8_letter 116 = .ok (.iaload, 1) := by decide +kernel
theorem dX8_letter_117 : decode cX8_letter 117 = .ok (.ireturn, 1) := by decide +kernel
theorem dX8_letter_118 : decode cX8_letter 118 = .ok (.iload_n 1, 1) := by decide +kernel
theorem dX8_letter_119 : decode cX8_letter 119 = .ok (.bipush 24, 2) := by decide +kernel
theorem dX8_letter_121 : decode cX8_letter 121 = .ok (.if_icmp .ge 18, 3) := by decide +kernel
theorem dX8_letter_124 : decode cX8_letter 124 = .ok (.aload_n 0, 1) := by decide +kernel
theorem dX8_letter_125 : decode cX8_letter 125 = .ok (.getfield 28, 3) := by decide +kernel
theorem dX8_letter_128 : decode cX8_letter 128 = .ok (.getfield 160, 3) := by decide +kernel
theorem dX8_letter_131 : decode cX8_letter 131 = .ok (.iload_n 1, 1) := by decide +kernel
theorem dX8_letter_132 : decode cX8_letter 132 = .ok (.bipush 24, 2) := by decide +kernel
theorem dX8_letter_134 : decode cX8_letter 134 = .ok (.iadd, 1) := by decide +kernel
theorem dX8_letter_135 : decode cX8_letter 135 = .ok (.iaload, 1) := by decide +kernel
theorem dX8_letter_136 : decode cX8_letter 136 = .ok (.goto 4, 3) := by decide +kernel
theorem dX8_letter_139 : decode cX8_letter 139 = .ok (.iconst 0, 1) := by decide +kernel
theorem dX8_letter_140 : decode cX8_letter 140 = .ok (.ireturn, 1) := by decide +kernel
theorem dX8_letter_141 : decode cX8_letter 141 = .ok (.aload_n 0, 1) := by decide +kernel
theorem dX8_letter_142 : decode cX8_letter 142 = .ok (.getfield 28, 3) := by decide +kernel
theorem dX8_letter_145 : decode cX8_letter 145 = .ok (.getfield 163, 3) := by decide +kernel
theorem dX8_letter_148 : decode cX8_letter 148 = .ok (.iload_n 1, 1) := by decide +kernel
theorem dX8_letter_149 : decode cX8_letter 149 = .ok (.iaload, 1) := by decide +kernel
theorem dX8_letter_150 : decode cX8_letter 150 = .ok (.ireturn, 1) := by decide +kernel
theorem dX8_letter_151 : decode cX8_letter 151 = .ok (.aload_n 0, 1) := by decide +kernel
theorem dX8_letter_152 : decode cX8_letter 152 = .ok (.getfield 28, 3) := by decide +kernel
theorem dX8_letter_155 : decode cX8_letter 155 = .ok (.getfield 166, 3) := by decide +kernel
theorem dX8_letter_158 : decode cX8_letter 158 = .ok (.iload_n 1, 1) := by decide +kernel
theorem dX8_letter_159 : decode cX8_letter 159 = .ok (.iaload, 1) := by decide +kernel
theorem dX8_letter_160 : decode cX8_letter 160 = .ok (.ireturn, 1) := by decide +kernel
theorem dX8_letter_161 : decode cX8_letter 161 = .ok (.aload_n 0, 1) := by decide +kernel
theorem dX8_letter_162 : decode cX8_letter 162 = .ok (.getfield 28, 3) := by decide +kernel
theorem dX8_letter_165 : decode cX8_letter 165 = .ok (.getfield 169, 3) := by decide +kernel
theorem dX8_letter_168 : decode cX8_letter 168 = .ok (.iload_n 1, 1) := by decide +kernel
theorem dX8_letter_169 : decode cX8_letter 169 = .ok (.iaload, 1) := by decide +kernel
theorem dX8_letter_170 : decode cX8_letter 170 = .ok (.ireturn, 1) := by decide +kernel
theorem dX8_letter_171 : decode cX8_letter 171 = .ok (.bipush (-2), 2) := by decide +kernel
theorem dX8_letter_173 : decode cX8_letter 173 = .ok (.ireturn, 1) := by decide +kernel
theorem dX8_hours_0 : decode cX8_hours 0 = .ok (.aload_n 0, 1) := by decide +kernel
theorem dX8_hours_1 : decode cX8_hours 1 = .ok (.getfield 28, 3) := by decide +kernel
theorem dX8_hours_4 : decode cX8_hours 4 = .ok (.iload_n 1, 1) := by decide +kernel
theorem dX8_hours_5 : decode cX8_hours 5 = .ok (.invokevirtual 172, 3) := by decide +kernel
theorem dX8_hours_8 : decode cX8_hours 8 = .ok (.ifCond .eq 14, 3) := by decide +kernel
theorem dX8_hours_11 : decode cX8_hours 11 = .ok (.iload_n 2, 1) := by decide +kernel
theorem dX8_hours_12 : decode cX8_hours 12 = .ok (.iconst 1, 1) := by decide +kernel
theorem dX8_hours_13 : decode cX8_hours 13 = .ok (.if_icmp .lt 9, 3) := by decide +kernel
theorem dX8_hours_16 : decode cX8_hours 16 = .ok (.iload_n 2, 1) := by decide +kernel
theorem dX8_hours_17 : decode cX8_hours 17 = .ok (.bipush 99, 2) := by decide +kernel
theorem dX8_hours_19 : decode cX8_hours 19 = .ok (.if_icmp .le 6, 3) := by decide +kernel
theorem dX8_hours_22 : decode cX8_hours 22 = .ok (.bipush (-2), 2) := by decide +kernel
theorem dX8_hours_24 : decode cX8_hours 24 = .ok (.ireturn, 1) := by decide +kernel
theorem dX8_hours_25 : decode cX8_hours 25 = .ok (.aload_n 0, 1) := by decide +kernel
theorem dX8_hours_26 : decode cX8_hours 26 = .ok (.getfield 28, 3) := by decide +kernel
theorem dX8_hours_29 : decode cX8_hours 29 = .ok (.getfield 160, 3) := by decide +kernel
theorem dX8_hours_32 : decode cX8_hours 32 = .ok (.iload_n 1, 1) := by decide +kernel
theorem dX8_hours_33 : decode cX8_hours 33 = .ok (.iaload, 1) := by decide +kernel
theorem dX8_hours_34 : decode cX8_hours 34 = .ok (.istore_n 3, 1) := by decide +kernel
theorem dX8_hours_35 : decode cX8_hours 35 = .ok (.aload_n 0, 1) := by decide +kernel
theorem dX8_hours_36 : decode cX8_hours 36 = .ok (.getfield 28, 3) := by decide +kernel
theorem dX8_hours_39 : decode cX8_hours 39 = .ok (.getfield 160, 3) := by decide +kernel
theorem dX8_hours_42 : decode cX8_hours 42 = .ok (.iload_n 1, 1) := by decide +kernel
theorem dX8_hours_43 : decode cX8_hours 43 = .ok (.iload_n 2, 1) := by decide +kernel
theorem dX8_hours_44 : decode cX8_hours 44 = .ok (.iastore, 1) := by decide +kernel
theorem dX8_hours_45 : decode cX8_hours 45 = .ok (.aload_n 0, 1) := by decide +kernel
theorem dX8_hours_46 : decode cX8_hours 46 = .ok (.invokevirtual 116, 3) := by decide +kernel
theorem dX8_hours_49 : decode cX8_hours 49 = .ok (.iload_n 3, 1) := by decide +kernel
theorem dX8_hours_50 : decode cX8_hours 50 = .ok (.ireturn, 1) := by decide +kernel
theorem dX8_law_0 : decode cX8_law 0 = .ok (.aload_n 0, 1) := by decide +kernel
theorem dX8_law_1 : decode cX8_law 1 = .ok (.invokevirtual 175, 3) := by decide +kernel
theorem dX8_law_4 : decode cX8_law 4 = .ok (.ifCond .ne 12, 3) := by decide +kernel
theorem dX8_law_7 : decode cX8_law 7 = .ok (.iload_n 1, 1) := by decide +kernel
theorem dX8_law_8 : decode cX8_law 8 = .ok (.ifCond .lt 8, 3) := by decide +kernel
theorem dX8_law_11 : decode cX8_law 11 = .ok (.iload_n 1, 1) := by decide +kernel
theorem dX8_law_12 : decode cX8_law 12 = .ok (.iconst 3, 1) := by decide +kernel
theorem dX8_law_13 : decode cX8_law 13 = .ok (.if_icmp .le 6, 3) := by decide +kernel
theorem dX8_law_16 : decode cX8_law 16 = .ok (.bipush (-2), 2) := by decide +kernel
theorem dX8_law_18 : decode cX8_law 18 = .ok (.ireturn, 1) := by decide +kernel
theorem dX8_law_19 : decode cX8_law 19 = .ok (.aload_n 0, 1) := by decide +kernel
theorem dX8_law_20 : decode cX8_law 20 = .ok (.getfield 28, 3) := by decide +kernel
theorem dX8_law_23 : decode cX8_law 23 = .ok (.getfield 178, 3) := by decide +kernel
theorem dX8_law_26 : decode cX8_law 26 = .ok (.istore_n 2, 1) := by decide +kernel
theorem dX8_law_27 : decode cX8_law 27 = .ok (.aload_n 0, 1) := by decide +kernel
theorem dX8_law_28 : decode cX8_law 28 = .ok (.getfield 28, 3) := by decide +kernel
theorem dX8_law_31 : decode cX8_law 31 = .ok (.iload_n 1, 1) := by decide +kernel
theorem dX8_law_32 : decode cX8_law 32 = .ok (.putfield 178, 3) := by decide +kernel
theorem dX8_law_35 : decode cX8_law 35 = .ok (.aload_n 0, 1) := by decide +kernel
theorem dX8_law_36 : decode cX8_law 36 = .ok (.invokevirtual 116, 3) := by decide +kernel
theorem dX8_law_39 : decode cX8_law 39 = .ok (.iload_n 2, 1) := by decide +kernel
theorem dX8_law_40 : decode cX8_law 40 = .ok (.ireturn, 1) := by decide +kernel
theorem dX8_answered_0 : decode cX8_answered 0 = .ok (.aload_n 0, 1) := by decide +kernel
theorem dX8_answered_1 : decode cX8_answered 1 = .ok (.getfield 28, 3) := by decide +kernel
theorem dX8_answered_4 : decode cX8_answered 4 = .ok (.iload_n 1, 1) := by decide +kernel
theorem dX8_answered_5 : decode cX8_answered 5 = .ok (.invokevirtual 141, 3) := by decide +kernel
theorem dX8_answered_8 : decode cX8_answered 8 = .ok (.ifCond .eq 15, 3) := by decide +kernel
theorem dX8_answered_11 : decode cX8_answered 11 = .ok (.aload_n 0, 1) := by decide +kernel
theorem dX8_answered_12 : decode cX8_answered 12 = .ok (.invokevirtual 153, 3) := by decide +kernel
theorem dX8_answered_15 : decode cX8_answered 15 = .ok (.getfield 181, 3) := by decide +kernel
theorem dX8_answered_18 : decode cX8_answered 18 = .ok (.iload_n 1, 1) := by decide +kernel
theorem dX8_answered_19 : decode cX8_answered 19 = .ok (.iaload, 1) := by decide +kernel
theorem dX8_answered_20 : decode cX8_answered 20 = .ok (.goto 5, 3) := by decide +kernel
theorem dX8_answered_23 : decode cX8_answered 23 = .ok (.bipush (-2), 2) := by decide +kernel
theorem dX8_answered_25 : decode cX8_answered 25 = .ok (.ireturn, 1) := by decide +kernel
theorem dX8_comes_0 : decode cX8_comes 0 = .ok (.aload_n 0, 1) := by decide +kernel
theorem dX8_comes_1 : decode cX8_comes 1 = .ok (.getfield 28, 3) := by decide +kernel
theorem dX8_comes_4 : decode cX8_comes 4 = .ok (.iload_n 1, 1) := by decide +kernel
theorem dX8_comes_5 : decode cX8_comes 5 = .ok (.invokevirtual 141, 3) := by decide +kernel
theorem dX8_comes_8 : decode cX8_comes 8 = .ok (.ifCond .ne 6, 3) := by decide +kernel
theorem dX8_comes_11 : decode cX8_comes 11 = .ok (.bipush (-2), 2) := by decide +kernel
theorem dX8_comes_13 : decode cX8_comes 13 = .ok (.ireturn, 1) := by decide +kernel
theorem dX8_comes_14 : decode cX8_comes 14 = .ok (.aload_n 0, 1) := by decide +kernel
theorem dX8_comes_15 : decode cX8_comes 15 = .ok (.invokevirtual 153, 3) := by decide +kernel
theorem dX8_comes_18 : decode cX8_comes 18 = .ok (.getfield 181, 3) := by decide +kernel
theorem dX8_comes_21 : decode cX8_comes 21 = .ok (.iload_n 1, 1) := by decide +kernel
theorem dX8_comes_22 : decode cX8_comes 22 = .ok (.iaload, 1) := by decide +kernel
theorem dX8_comes_23 : decode cX8_comes 23 = .ok (.istore_n 2, 1) := by decide +kernel
theorem dX8_comes_24 : decode cX8_comes 24 = .ok (.iload_n 2, 1) := by decide +kernel
theorem dX8_comes_25 : decode cX8_comes 25 = .ok (.iconst (-1), 1) := by decide +kernel
theorem dX8_comes_26 : decode cX8_comes 26 = .ok (.if_icmp .eq 22, 3) := by decide +kernel
theorem dX8_comes_29 : decode cX8_comes 29 = .ok (.aload_n 0, 1) := by decide +kernel
theorem dX8_comes_30 : decode cX8_comes 30 = .ok (.getfield 28, 3) := by decide +kernel
theorem dX8_comes_33 : decode cX8_comes 33 = .ok (.iload_n 2, 1) := by decide +kernel
theorem dX8_comes_34 : decode cX8_comes 34 = .ok (.aload_n 0, 1) := by decide +kernel
theorem dX8_comes_35 : decode cX8_comes 35 = .ok (.getfield 28, 3) := by decide +kernel
theorem dX8_comes_38 : decode cX8_comes 38 = .ok (.getfield 184, 3) := by decide +kernel
theorem dX8_comes_41 : decode cX8_comes 41 = .ok (.iadd, 1) := by decide +kernel
theorem dX8_comes_42 : decode cX8_comes 42 = .ok (.invokevirtual 187, 3) := by decide +kernel
theorem dX8_comes_45 : decode cX8_comes 45 = .ok (.ifCond .ne 5, 3) := by decide +kernel
theorem dX8_comes_48 : decode cX8_comes 48 = .ok (.iconst (-1), 1) := by decide +kernel
theorem dX8_comes_49 : decode cX8_comes 49 = .ok (.ireturn, 1) := by decide +kernel
theorem dX8_comes_50 : decode cX8_comes 50 = .ok (.iload_n 2, 1) := by decide +kernel
theorem dX8_comes_51 : decode cX8_comes 51 = .ok (.aload_n 0, 1) := by decide +kernel
theorem dX8_comes_52 : decode cX8_comes 52 = .ok (.getfield 28, 3) := by decide +kernel
theorem dX8_comes_55 : decode cX8_comes 55 = .ok (.getfield 184, 3) := by decide +kernel
theorem dX8_comes_58 : decode cX8_comes 58 = .ok (.iadd, 1) := by decide +kernel
theorem dX8_comes_59 : decode cX8_comes 59 = .ok (.ireturn, 1) := by decide +kernel
theorem dX8_needs_0 : decode cX8_needs 0 = .ok (.aload_n 0, 1) := by decide +kernel
theorem dX8_needs_1 : decode cX8_needs 1 = .ok (.getfield 28, 3) := by decide +kernel
theorem dX8_needs_4 : decode cX8_needs 4 = .ok (.iload_n 1, 1) := by decide +kernel
theorem dX8_needs_5 : decode cX8_needs 5 = .ok (.invokevirtual 141, 3) := by decide +kernel
theorem dX8_needs_8 : decode cX8_needs 8 = .ok (.ifCond .eq 14, 3) := by decide +kernel
theorem dX8_needs_11 : decode cX8_needs 11 = .ok (.aload_n 0, 1) := by decide +kernel
theorem dX8_needs_12 : decode cX8_needs 12 = .ok (.getfield 28, 3) := by decide +kernel
theorem dX8_needs_15 : decode cX8_needs 15 = .ok (.iload_n 2, 1) := by decide +kernel
theorem dX8_needs_16 : decode cX8_needs 16 = .ok (.invokevirtual 187, 3) := by decide +kernel
theorem dX8_needs_19 : decode cX8_needs 19 = .ok (.ifCond .ne 6, 3) := by decide +kernel
theorem dX8_needs_22 : decode cX8_needs 22 = .ok (.bipush (-2), 2) := by decide +kernel
theorem dX8_needs_24 : decode cX8_needs 24 = .ok (.ireturn, 1) := by decide +kernel
theorem dX8_needs_25 : decode cX8_needs 25 = .ok (.aload_n 0, 1) := by decide +kernel
theorem dX8_needs_26 : decode cX8_needs 26 = .ok (.invokevirtual 153, 3) := by decide +kernel
theorem dX8_needs_29 : decode cX8_needs 29 = .ok (.pop, 1) := by decide +kernel
theorem dX8_needs_30 : decode cX8_needs 30 = .ok (.aload_n 0, 1) := by decide +kernel
theorem dX8_needs_31 : decode cX8_needs 31 = .ok (.getfield 49, 3) := by decide +kernel
theorem dX8_needs_34 : decode cX8_needs 34 = .ok (.getfield 190, 3) := by decide +kernel
theorem dX8_needs_37 : decode cX8_needs 37 = .ok (.iload_n 2, 1) := by decide +kernel
theorem dX8_needs_38 : decode cX8_needs 38 = .ok (.bipush 49, 2) := by decide +kernel
theorem dX8_needs_40 : decode cX8_needs 40 = .ok (.imul, 1) := by decide +kernel
theorem dX8_needs_41 : decode cX8_needs 41 = .ok (.iload_n 1, 1) := by decide +kernel
theorem dX8_needs_42 : decode cX8_needs 42 = .ok (.iadd, 1) := by decide +kernel
