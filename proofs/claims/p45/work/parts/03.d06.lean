theorem dX9_copyTown_29 : decode cX9_copyTown 29 = .ok (.invokestatic 266, 3) := by decide +kernel
theorem dX9_copyTown_32 : decode cX9_copyTown 32 = .ok (.aload_n 0, 1) := by decide +kernel
theorem dX9_copyTown_33 : decode cX9_copyTown 33 = .ok (.getfield 40, 3) := by decide +kernel
theorem dX9_copyTown_36 : decode cX9_copyTown 36 = .ok (.sipush 192, 3) := by decide +kernel
theorem dX9_copyTown_39 : decode cX9_copyTown 39 = .ok (.iload_n 1, 1) := by decide +kernel
theorem dX9_copyTown_40 : decode cX9_copyTown 40 = .ok (.iload_n 2, 1) := by decide +kernel
theorem dX9_copyTown_41 : decode cX9_copyTown 41 = .ok (.invokestatic 266, 3) := by decide +kernel
theorem dX9_copyTown_44 : decode cX9_copyTown 44 = .ok (.return_, 1) := by decide +kernel
theorem dX9_isTown_0 : decode cX9_isTown 0 = .ok (.aload_n 0, 1) := by decide +kernel
theorem dX9_isTown_1 : decode cX9_isTown 1 = .ok (.getfield 31, 3) := by decide +kernel
theorem dX9_isTown_4 : decode cX9_isTown 4 = .ok (.iconst 0, 1) := by decide +kernel
theorem dX9_isTown_5 : decode cX9_isTown 5 = .ok (.iaload, 1) := by decide +kernel
theorem dX9_isTown_6 : decode cX9_isTown 6 = .ok (.ifCond .le 7, 3) := by decide +kernel
theorem dX9_isTown_9 : decode cX9_isTown 9 = .ok (.iconst 1, 1) := by decide +kernel
theorem dX9_isTown_10 : decode cX9_isTown 10 = .ok (.goto 4, 3) := by decide +kernel
theorem dX9_isTown_13 : decode cX9_isTown 13 = .ok (.iconst 0, 1) := by decide +kernel
theorem dX9_isTown_14 : decode cX9_isTown 14 = .ok (.ireturn, 1) := by decide +kernel
theorem dX9_isPerson_0 : decode cX9_isPerson 0 = .ok (.iload_n 1, 1) := by decide +kernel
theorem dX9_isPerson_1 : decode cX9_isPerson 1 = .ok (.i2l, 1) := by decide +kernel
theorem dX9_isPerson_2 : decode cX9_isPerson 2 = .ok (.lconst 0, 1) := by decide +kernel
theorem dX9_isPerson_3 : decode cX9_isPerson 3 = .ok (.aload_n 0, 1) := by decide +kernel
theorem dX9_isPerson_4 : decode cX9_isPerson 4 = .ok (.getfield 34, 3) := by decide +kernel
theorem dX9_isPerson_7 : decode cX9_isPerson 7 = .ok (.iconst 2, 1) := by decide +kernel
theorem dX9_isPerson_8 : decode cX9_isPerson 8 = .ok (.iaload, 1) := by decide +kernel
theorem dX9_isPerson_9 : decode cX9_isPerson 9 = .ok (.iconst 1, 1) := by decide +kernel
theorem dX9_isPerson_10 : decode cX9_isPerson 10 = .ok (.isub, 1) := by decide +kernel
theorem dX9_isPerson_11 : decode cX9_isPerson 11 = .ok (.i2l, 1) := by decide +kernel
theorem dX9_isPerson_12 : decode cX9_isPerson 12 = .ok (.invokestatic 100, 3) := by decide +kernel
theorem dX9_isPerson_15 : decode cX9_isPerson 15 = .ok (.ireturn, 1) := by decide +kernel
theorem dX9_isTold_0 : decode cX9_isTold 0 = .ok (.iload_n 1, 1) := by decide +kernel
theorem dX9_isTold_1 : decode cX9_isTold 1 = .ok (.i2l, 1) := by decide +kernel
theorem dX9_isTold_2 : decode cX9_isTold 2 = .ok (.lconst 0, 1) := by decide +kernel
theorem dX9_isTold_3 : decode cX9_isTold 3 = .ok (.aload_n 0, 1) := by decide +kernel
theorem dX9_isTold_4 : decode cX9_isTold 4 = .ok (.getfield 34, 3) := by decide +kernel
theorem dX9_isTold_7 : decode cX9_isTold 7 = .ok (.iconst 3, 1) := by decide +kernel
theorem dX9_isTold_8 : decode cX9_isTold 8 = .ok (.iaload, 1) := by decide +kernel
theorem dX9_isTold_9 : decode cX9_isTold 9 = .ok (.iconst 1, 1) := by decide +kernel
theorem dX9_isTold_10 : decode cX9_isTold 10 = .ok (.isub, 1) := by decide +kernel
theorem dX9_isTold_11 : decode cX9_isTold 11 = .ok (.i2l, 1) := by decide +kernel
theorem dX9_isTold_12 : decode cX9_isTold 12 = .ok (.invokestatic 100, 3) := by decide +kernel
theorem dX9_isTold_15 : decode cX9_isTold 15 = .ok (.ireturn, 1) := by decide +kernel
theorem dX9_isLetter_0 : decode cX9_isLetter 0 = .ok (.aload_n 0, 1) := by decide +kernel
theorem dX9_isLetter_1 : decode cX9_isLetter 1 = .ok (.iload_n 1, 1) := by decide +kernel
theorem dX9_isLetter_2 : decode cX9_isLetter 2 = .ok (.invokevirtual 270, 3) := by decide +kernel
theorem dX9_isLetter_5 : decode cX9_isLetter 5 = .ok (.ifCond .ne 31, 3) := by decide +kernel
theorem dX9_isLetter_8 : decode cX9_isLetter 8 = .ok (.aload_n 0, 1) := by decide +kernel
theorem dX9_isLetter_9 : decode cX9_isLetter 9 = .ok (.iload_n 1, 1) := by decide +kernel
theorem dX9_isLetter_10 : decode cX9_isLetter 10 = .ok (.bipush 24, 2) := by decide +kernel
theorem dX9_isLetter_12 : decode cX9_isLetter 12 = .ok (.isub, 1) := by decide +kernel
theorem dX9_isLetter_13 : decode cX9_isLetter 13 = .ok (.invokevirtual 270, 3) := by decide +kernel
theorem dX9_isLetter_16 : decode cX9_isLetter 16 = .ok (.ifCond .eq 24, 3) := by decide +kernel
theorem dX9_isLetter_19 : decode cX9_isLetter 19 = .ok (.aload_n 0, 1) := by decide +kernel
theorem dX9_isLetter_20 : decode cX9_isLetter 20 = .ok (.getfield 40, 3) := by decide +kernel
theorem dX9_isLetter_23 : decode cX9_isLetter 23 = .ok (.bipush 8, 2) := by decide +kernel
theorem dX9_isLetter_25 : decode cX9_isLetter 25 = .ok (.iload_n 1, 1) := by decide +kernel
theorem dX9_isLetter_26 : decode cX9_isLetter 26 = .ok (.bipush 24, 2) := by decide +kernel
theorem dX9_isLetter_28 : decode cX9_isLetter 28 = .ok (.isub, 1) := by decide +kernel
theorem dX9_isLetter_29 : decode cX9_isLetter 29 = .ok (.imul, 1) := by decide +kernel
theorem dX9_isLetter_30 : decode cX9_isLetter 30 = .ok (.iconst 4, 1) := by decide +kernel
theorem dX9_isLetter_31 : decode cX9_isLetter 31 = .ok (.iadd, 1) := by decide +kernel
theorem dX9_isLetter_32 : decode cX9_isLetter 32 = .ok (.iaload, 1) := by decide +kernel
theorem dX9_isLetter_33 : decode cX9_isLetter 33 = .ok (.ifCond .le 7, 3) := by decide +kernel
theorem dX9_isLetter_36 : decode cX9_isLetter 36 = .ok (.iconst 1, 1) := by decide +kernel
theorem dX9_isLetter_37 : decode cX9_isLetter 37 = .ok (.goto 4, 3) := by decide +kernel
theorem dX9_isLetter_40 : decode cX9_isLetter 40 = .ok (.iconst 0, 1) := by decide +kernel
theorem dX9_isLetter_41 : decode cX9_isLetter 41 = .ok (.ireturn, 1) := by decide +kernel
theorem dX9_isDay_0 : decode cX9_isDay 0 = .ok (.iload_n 1, 1) := by decide +kernel
theorem dX9_isDay_1 : decode cX9_isDay 1 = .ok (.i2l, 1) := by decide +kernel
theorem dX9_isDay_2 : decode cX9_isDay 2 = .ok (.lconst 0, 1) := by decide +kernel
theorem dX9_isDay_3 : decode cX9_isDay 3 = .ok (.aload_n 0, 1) := by decide +kernel
theorem dX9_isDay_4 : decode cX9_isDay 4 = .ok (.getfield 34, 3) := by decide +kernel
theorem dX9_isDay_7 : decode cX9_isDay 7 = .ok (.iconst 0, 1) := by decide +kernel
theorem dX9_isDay_8 : decode cX9_isDay 8 = .ok (.iaload, 1) := by decide +kernel
theorem dX9_isDay_9 : decode cX9_isDay 9 = .ok (.iconst 1, 1) := by decide +kernel
theorem dX9_isDay_10 : decode cX9_isDay 10 = .ok (.isub, 1) := by decide +kernel
theorem dX9_isDay_11 : decode cX9_isDay 11 = .ok (.i2l, 1) := by decide +kernel
theorem dX9_isDay_12 : decode cX9_isDay 12 = .ok (.invokestatic 100, 3) := by decide +kernel
theorem dX9_isDay_15 : decode cX9_isDay 15 = .ok (.ireturn, 1) := by decide +kernel
theorem dX9_isMore_0 : decode cX9_isMore 0 = .ok (.iload_n 1, 1) := by decide +kernel
theorem dX9_isMore_1 : decode cX9_isMore 1 = .ok (.bipush 48, 2) := by decide +kernel
theorem dX9_isMore_3 : decode cX9_isMore 3 = .ok (.if_icmp .ne 7, 3) := by decide +kernel
theorem dX9_isMore_6 : decode cX9_isMore 6 = .ok (.iconst 1, 1) := by decide +kernel
theorem dX9_isMore_7 : decode cX9_isMore 7 = .ok (.goto 4, 3) := by decide +kernel
theorem dX9_isMore_10 : decode cX9_isMore 10 = .ok (.iconst 0, 1) := by decide +kernel
theorem dX9_isMore_11 : decode cX9_isMore 11 = .ok (.ireturn, 1) := by decide +kernel
theorem dX9_fromOf_0 : decode cX9_fromOf 0 = .ok (.aload_n 0, 1) := by decide +kernel
theorem dX9_fromOf_1 : decode cX9_fromOf 1 = .ok (.iload_n 1, 1) := by decide +kernel
theorem dX9_fromOf_2 : decode cX9_fromOf 2 = .ok (.invokevirtual 273, 3) := by decide +kernel
theorem dX9_fromOf_5 : decode cX9_fromOf 5 = .ok (.ifCond .eq 12, 3) := by decide +kernel
theorem dX9_fromOf_8 : decode cX9_fromOf 8 = .ok (.aload_n 0, 1) := by decide +kernel
theorem dX9_fromOf_9 : decode cX9_fromOf 9 = .ok (.getfield 47, 3) := by decide +kernel
theorem dX9_fromOf_12 : decode cX9_fromOf 12 = .ok (.iconst 0, 1) := by decide +kernel
theorem dX9_fromOf_13 : decode cX9_fromOf 13 = .ok (.iaload, 1) := by decide +kernel
theorem dX9_fromOf_14 : decode cX9_fromOf 14 = .ok (.goto 37, 3) := by decide +kernel
theorem dX9_fromOf_17 : decode cX9_fromOf 17 = .ok (.iload_n 1, 1) := by decide +kernel
theorem dX9_fromOf_18 : decode cX9_fromOf 18 = .ok (.bipush 24, 2) := by decide +kernel
theorem dX9_fromOf_20 : decode cX9_fromOf 20 = .ok (.if_icmp .ge 17, 3) := by decide +kernel
theorem dX9_fromOf_23 : decode cX9_fromOf 23 = .ok (.aload_n 0, 1) := by decide +kernel
theorem dX9_fromOf_24 : decode cX9_fromOf 24 = .ok (.getfield 40, 3) := by decide +kernel
theorem dX9_fromOf_27 : decode cX9_fromOf 27 = .ok (.bipush 8, 2) := by decide +kernel
theorem dX9_fromOf_29 : decode cX9_fromOf 29 = .ok (.iload_n 1, 1) := by decide +kernel
theorem dX9_fromOf_30 : decode cX9_fromOf 30 = .ok (.imul, 1) := by decide +kernel
theorem dX9_fromOf_31 : decode cX9_fromOf 31 = .ok (.iconst 0, 1) := by decide +kernel
theorem dX9_fromOf_32 : decode cX9_fromOf 32 = .ok (.iadd, 1) := by decide +kernel
theorem dX9_fromOf_33 : decode cX9_fromOf 33 = .ok (.iaload, 1) := by decide +kernel
theorem dX9_fromOf_34 : decode cX9_fromOf 34 = .ok (.goto 17, 3) := by decide +kernel
theorem dX9_fromOf_37 : decode cX9_fromOf 37 = .ok (.aload_n 0, 1) := by decide +kernel
theorem dX9_fromOf_38 : decode cX9_fromOf 38 = .ok (.getfield 40, 3) := by decide +kernel
theorem dX9_fromOf_41 : decode cX9_fromOf 41 = .ok (.bipush 8, 2) := by decide +kernel
theorem dX9_fromOf_43 : decode cX9_fromOf 43 = .ok (.iload_n 1, 1) := by decide +kernel
theorem dX9_fromOf_44 : decode cX9_fromOf 44 = .ok (.bipush 24, 2) := by decide +kernel
theorem dX9_fromOf_46 : decode cX9_fromOf 46 = .ok (.isub, 1) := by decide +kernel
theorem dX9_fromOf_47 : decode cX9_fromOf 47 = .ok (.imul, 1) := by decide +kernel
theorem dX9_fromOf_48 : decode cX9_fromOf 48 = .ok (.iconst 1, 1) := by decide +kernel
theorem dX9_fromOf_49 : decode cX9_fromOf 49 = .ok (.iadd, 1) := by decide +kernel
theorem dX9_fromOf_50 : decode cX9_fromOf 50 = .ok (.iaload, 1) := by decide +kernel
theorem dX9_fromOf_51 : decode cX9_fromOf 51 = .ok (.ireturn, 1) := by decide +kernel
theorem dX9_toOf_0 : decode cX9_toOf 0 = .ok (.aload_n 0, 1) := by decide +kernel
theorem dX9_toOf_1 : decode cX9_toOf 1 = .ok (.iload_n 1, 1) := by decide +kernel
theorem dX9_toOf_2 : decode cX9_toOf 2 = .ok (.invokevirtual 273, 3) := by decide +kernel
theorem dX9_toOf_5 : decode cX9_toOf 5 = .ok (.ifCond .eq 12, 3) := by decide +kernel
theorem dX9_toOf_8 : decode cX9_toOf 8 = .ok (.aload_n 0, 1) := by decide +kernel
theorem dX9_toOf_9 : decode cX9_toOf 9 = .ok (.getfield 47, 3) := by decide +kernel
theorem dX9_toOf_12 : decode cX9_toOf 12 = .ok (.iconst 1, 1) := by decide +kernel
theorem dX9_toOf_13 : decode cX9_toOf 13 = .ok (.iaload, 1) := by decide +kernel
theorem dX9_toOf_14 : decode cX9_toOf 14 = .ok (.goto 37, 3) := by decide +kernel
theorem dX9_toOf_17 : decode cX9_toOf 17 = .ok (.iload_n 1, 1) := by decide +kernel
theorem dX9_toOf_18 : decode cX9_toOf 18 = .ok (.bipush 24, 2) := by decide +kernel
theorem dX9_toOf_20 : decode cX9_toOf 20 = .ok (.if_icmp .ge 17, 3) := by decide +kernel
theorem dX9_toOf_23 : decode cX9_toOf 23 = .ok (.aload_n 0, 1) := by decide +kernel
theorem dX9_toOf_24 : decode cX9_toOf 24 = .ok (.getfield 40, 3) := by decide +kernel
theorem dX9_toOf_27 : decode cX9_toOf 27 = .ok (.bipush 8, 2) := by decide +kernel
theorem dX9_toOf_29 : decode cX9_toOf 29 = .ok (.iload_n 1, 1) := by decide +kernel
theorem dX9_toOf_30 : decode cX9_toOf 30 = .ok (.imul, 1) := by decide +kernel
theorem dX9_toOf_31 : decode cX9_toOf 31 = .ok (.iconst 1, 1) := by decide +kernel
theorem dX9_toOf_32 : decode cX9_toOf 32 = .ok (.iadd, 1) := by decide +kernel
theorem dX9_toOf_33 : decode cX9_toOf 33 = .ok (.iaload, 1) := by decide +kernel
theorem dX9_toOf_34 : decode cX9_toOf 34 = .ok (.goto 17, 3) := by decide +kernel
theorem dX9_toOf_37 : decode cX9_toOf 37 = .ok (.aload_n 0, 1) := by decide +kernel
theorem dX9_toOf_38 : decode cX9_toOf 38 = .ok (.getfield 40, 3) := by decide +kernel
theorem dX9_toOf_41 : decode cX9_toOf 41 = .ok (.bipush 8, 2) := by decide +kernel
theorem dX9_toOf_43 : decode cX9_toOf 43 = .ok (.iload_n 1, 1) := by decide +kernel
theorem dX9_toOf_44 : decode cX9_toOf 44 = .ok (.bipush 24, 2) := by decide +kernel
theorem dX9_toOf_46 : decode cX9_toOf 46 = .ok (.isub, 1) := by decide +kernel
theorem dX9_toOf_47 : decode cX9_toOf 47 = .ok (.imul, 1) := by decide +kernel
theorem dX9_toOf_48 : decode cX9_toOf 48 = .ok (.iconst 0, 1) := by decide +kernel
theorem dX9_toOf_49 : decode cX9_toOf 49 = .ok (.iadd, 1) := by decide +kernel
theorem dX9_toOf_50 : decode cX9_toOf 50 = .ok (.iaload, 1) := by decide +kernel
theorem dX9_toOf_51 : decode cX9_toOf 51 = .ok (.ireturn, 1) := by decide +kernel
theorem dX9_hoursOf_0 : decode cX9_hoursOf 0 = .ok (.aload_n 0, 1) := by decide +kernel
theorem dX9_hoursOf_1 : decode cX9_hoursOf 1 = .ok (.iload_n 1, 1) := by decide +kernel
theorem dX9_hoursOf_2 : decode cX9_hoursOf 2 = .ok (.invokevirtual 273, 3) := by decide +kernel
theorem dX9_hoursOf_5 : decode cX9_hoursOf 5 = .ok (.ifCond .eq 12, 3) := by decide +kernel
theorem dX9_hoursOf_8 : decode cX9_hoursOf 8 = .ok (.aload_n 0, 1) := by decide +kernel
theorem dX9_hoursOf_9 : decode cX9_hoursOf 9 = .ok (.getfield 47, 3) := by decide +kernel
theorem dX9_hoursOf_12 : decode cX9_hoursOf 12 = .ok (.iconst 3, 1) := by decide +kernel
theorem dX9_hoursOf_13 : decode cX9_hoursOf 13 = .ok (.iaload, 1) := by decide +kernel
theorem dX9_hoursOf_14 : decode cX9_hoursOf 14 = .ok (.goto 37, 3) := by decide +kernel
theorem dX9_hoursOf_17 : decode cX9_hoursOf 17 = .ok (.iload_n 1, 1) := by decide +kernel
theorem dX9_hoursOf_18 : decode cX9_hoursOf 18 = .ok (.bipush 24, 2) := by decide +kernel
theorem dX9_hoursOf_20 : decode cX9_hoursOf 20 = .ok (.if_icmp .ge 17, 3) := by decide +kernel
theorem dX9_hoursOf_23 : decode cX9_hoursOf 23 = .ok (.aload_n 0, 1) := by decide +kernel
theorem dX9_hoursOf_24 : decode cX9_hoursOf 24 = .ok (.getfield 40, 3) := by decide +kernel
theorem dX9_hoursOf_27 : decode cX9_hoursOf 27 = .ok (.bipush 8, 2) := by decide +kernel
theorem dX9_hoursOf_29 : decode cX9_hoursOf 29 = .ok (.iload_n 1, 1) := by decide +kernel
theorem dX9_hoursOf_30 : decode cX9_hoursOf 30 = .ok (.imul, 1) := by decide +kernel
theorem dX9_hoursOf_31 : decode cX9_hoursOf 31 = .ok (.iconst 3, 1) := by decide +kernel
theorem dX9_hoursOf_32 : decode cX9_hoursOf 32 = .ok (.iadd, 1) := by decide +kernel
theorem dX9_hoursOf_33 : decode cX9_hoursOf 33 = .ok (.iaload, 1) := by decide +kernel
theorem dX9_hoursOf_34 : decode cX9_hoursOf 34 = .ok (.goto 17, 3) := by decide +kernel
theorem dX9_hoursOf_37 : decode cX9_hoursOf 37 = .ok (.aload_n 0, 1) := by decide +kernel
theorem dX9_hoursOf_38 : decode cX9_hoursOf 38 = .ok (.getfield 40, 3) := by decide +kernel
theorem dX9_hoursOf_41 : decode cX9_hoursOf 41 = .ok (.bipush 8, 2) := by decide +kernel
theorem dX9_hoursOf_43 : decode cX9_hoursOf 43 = .ok (.iload_n 1, 1) := by decide +kernel
theorem dX9_hoursOf_44 : decode cX9_hoursOf 44 = .ok (.bipush 24, 2) := by decide +kernel
theorem dX9_hoursOf_46 : decode cX9_hoursOf 46 = .ok (.isub, 1) := by decide +kernel
theorem dX9_hoursOf_47 : decode cX9_hoursOf 47 = .ok (.imul, 1) := by decide +kernel
theorem dX9_hoursOf_48 : decode cX9_hoursOf 48 = .ok (.iconst 4, 1) := by decide +kernel
theorem dX9_hoursOf_49 : decode cX9_hoursOf 49 = .ok (.iadd, 1) := by decide +kernel
theorem dX9_hoursOf_50 : decode cX9_hoursOf 50 = .ok (.iaload, 1) := by decide +kernel
theorem dX9_hoursOf_51 : decode cX9_hoursOf 51 = .ok (.ireturn, 1) := by decide +kernel
theorem dX9_afterOf_0 : decode cX9_afterOf 0 = .ok (.iload_n 1, 1) := by decide +kernel
theorem dX9_afterOf_1 : decode cX9_afterOf 1 = .ok (.bipush 24, 2) := by decide +kernel
theorem dX9_afterOf_3 : decode cX9_afterOf 3 = .ok (.if_icmp .ge 17, 3) := by decide +kernel
theorem dX9_afterOf_6 : decode cX9_afterOf 6 = .ok (.aload_n 0, 1) := by decide +kernel
theorem dX9_afterOf_7 : decode cX9_afterOf 7 = .ok (.getfield 40, 3) := by decide +kernel
theorem dX9_afterOf_10 : decode cX9_afterOf 10 = .ok (.bipush 8, 2) := by decide +kernel
theorem dX9_afterOf_12 : decode cX9_afterOf 12 = .ok (.iload_n 1, 1) := by decide +kernel
theorem dX9_afterOf_13 : decode cX9_afterOf 13 = .ok (.imul, 1) := by decide +kernel
theorem dX9_afterOf_14 : decode cX9_afterOf 14 = .ok (.iconst 5, 1) := by decide +kernel
theorem dX9_afterOf_15 : decode cX9_afterOf 15 = .ok (.iadd, 1) := by decide +kernel
theorem dX9_afterOf_16 : decode cX9_afterOf 16 = .ok (.iaload, 1) := by decide +kernel
theorem dX9_afterOf_17 : decode cX9_afterOf 17 = .ok (.goto 4, 3) := by decide +kernel
theorem dX9_afterOf_20 : decode cX9_afterOf 20 = .ok (.iconst (-1), 1) := by decide +kernel
theorem dX9_afterOf_21 : decode cX9_afterOf 21 = .ok (.ireturn, 1) := by decide +kernel
theorem dX9_worthOf_0 : decode cX9_worthOf 0 = .ok (.iload_n 1, 1) := by decide +kernel
theorem dX9_worthOf_1 : decode cX9_worthOf 1 = .ok (.bipush 24, 2) := by decide +kernel
theorem dX9_worthOf_3 : decode cX9_worthOf 3 = .ok (.if_icmp .ge 18, 3) := by decide +kernel
theorem dX9_worthOf_6 : decode cX9_worthOf 6 = .ok (.aload_n 0, 1) := by decide +kernel
theorem dX9_worthOf_7 : decode cX9_worthOf 7 = .ok (.getfield 40, 3) := by decide +kernel
theorem dX9_worthOf_10 : decode cX9_worthOf 10 = .ok (.bipush 8, 2) := by decide +kernel
theorem dX9_worthOf_12 : decode cX9_worthOf 12 = .ok (.iload_n 1, 1) := by decide +kernel
theorem dX9_worthOf_13 : decode cX9_worthOf 13 = .ok (.imul, 1) := by decide +kernel
theorem dX9_worthOf_14 : decode cX9_worthOf 14 = .ok (.bipush 6, 2) := by decide +kernel
theorem dX9_worthOf_16 : decode cX9_worthOf 16 = .ok (.iadd, 1) := by decide +kernel
theorem dX9_worthOf_17 : decode cX9_worthOf 17 = .ok (.iaload, 1) := by decide +kernel
theorem dX9_worthOf_18 : decode cX9_worthOf 18 = .ok (.goto 4, 3) := by decide +kernel
theorem dX9_worthOf_21 : decode cX9_worthOf 21 = .ok (.iconst 0, 1) := by decide +kernel
theorem dX9_worthOf_22 : decode cX9_worthOf 22 = .ok (.ireturn, 1) := by decide +kernel
theorem dX9_kindOf_0 : decode cX9_kindOf 0 = .ok (.aload_n 0, 1) := by decide +kernel
theorem dX9_kindOf_1 : decode cX9_kindOf 1 = .ok (.getfield 37, 3) := by decide +kernel
theorem dX9_kindOf_4 : decode cX9_kindOf 4 = .ok (.iconst 3, 1) := by decide +kernel
theorem dX9_kindOf_5 : decode cX9_kindOf 5 = .ok (.iload_n 1, 1) := by decide +kernel
theorem dX9_kindOf_6 : decode cX9_kindOf 6 = .ok (.imul, 1) := by decide +kernel
theorem dX9_kindOf_7 : decode cX9_kindOf 7 = .ok (.iconst 1, 1) := by decide +kernel
theorem dX9_kindOf_8 : decode cX9_kindOf 8 = .ok (.iadd, 1) := by decide +kernel
theorem dX9_kindOf_9 : decode cX9_kindOf 9 = .ok (.iaload, 1) := by decide +kernel
theorem dX9_kindOf_10 : decode cX9_kindOf 10 = .ok (.ireturn, 1) := by decide +kernel
theorem dX9_needsAtAll_0 : decode cX9_needsAtAll 0 = .ok (.aload_n 0, 1) := by decide +kernel
theorem dX9_needsAtAll_1 : decode cX9_needsAtAll 1 = .ok (.iload_n 1, 1) := by decide +kernel
theorem dX9_needsAtAll_2 : decode cX9_needsAtAll 2 = .ok (.invokevirtual 276, 3) := by decide +kernel
theorem dX9_needsAtAll_5 : decode cX9_needsAtAll 5 = .ok (.istore_n 2, 1) := by decide +kernel
theorem dX9_needsAtAll_6 : decode cX9_needsAtAll 6 = .ok (.aload_n 0, 1) := by decide +kernel
theorem dX9_needsAtAll_7 : decode cX9_needsAtAll 7 = .ok (.aload_n 0, 1) := by decide +kernel
theorem dX9_needsAtAll_8 : decode cX9_needsAtAll 8 = .ok (.iload_n 1, 1) := by decide +kernel
theorem dX9_needsAtAll_9 : decode cX9_needsAtAll 9 = .ok (.invokevirtual 279, 3) := by decide +kernel
theorem dX9_needsAtAll_12 : decode cX9_needsAtAll 12 = .ok (.invokevirtual 282, 3) := by decide +kernel
theorem dX9_needsAtAll_15 : decode cX9_needsAtAll 15 = .ok (.istore_n 3, 1) := by decide +kernel
theorem dX9_needsAtAll_16 : decode cX9_needsAtAll 16 = .ok (.iload_n 3, 1) := by decide +kernel
theorem dX9_needsAtAll_17 : decode cX9_needsAtAll 17 = .ok (.iconst 1, 1) := by decide +kernel
theorem dX9_needsAtAll_18 : decode cX9_needsAtAll 18 = .ok (.if_icmp .ne 11, 3) := by decide +kernel
theorem dX9_needsAtAll_21 : decode cX9_needsAtAll 21 = .ok (.iload_n 2, 1) := by decide +kernel
theorem dX9_needsAtAll_22 : decode cX9_needsAtAll 22 = .ok (.iconst 1, 1) := by decide +kernel
theorem dX9_needsAtAll_23 : decode cX9_needsAtAll 23 = .ok (.iadd, 1) := by decide +kernel
theorem dX9_needsAtAll_24 : decode cX9_needsAtAll 24 = .ok (.iconst 2, 1) := by decide +kernel
theorem dX9_needsAtAll_25 : decode cX9_needsAtAll 25 = .ok (.idiv, 1) := by decide +kernel
theorem dX9_needsAtAll_26 : decode cX9_needsAtAll 26 = .ok (.goto 25, 3) := by decide +kernel
theorem dX9_needsAtAll_29 : decode cX9_needsAtAll 29 = .ok (.iload_n 3, 1) := by decide +kernel
theorem dX9_needsAtAll_30 : decode cX9_needsAtAll 30 = .ok (.iconst 3, 1) := by decide +kernel
theorem dX9_needsAtAll_31 : decode cX9_needsAtAll 31 = .ok (.if_icmp .ne 19, 3) := by decide +kernel
theorem dX9_needsAtAll_34 : decode cX9_needsAtAll 34 = .ok (.aload_n 0, 1) := by decide +kernel
theorem dX9_needsAtAll_35 : decode cX9_needsAtAll 35 = .ok (.iload_n 1, 1) := by decide +kernel
theorem dX9_needsAtAll_36 : decode cX9_needsAtAll 36 = .ok (.invokevirtual 285, 3) := by decide +kernel
theorem dX9_needsAtAll_39 : decode cX9_needsAtAll 39 = .ok (.bipush 50, 2) := by decide +kernel
theorem dX9_needsAtAll_41 : decode cX9_needsAtAll 41 = .ok (.if_icmp .lt 9, 3) := by decide +kernel
theorem dX9_needsAtAll_44 : decode cX9_needsAtAll 44 = .ok (.iconst 2, 1) := by decide +kernel
theorem dX9_needsAtAll_45 : decode cX9_needsAtAll 45 = .ok (.iload_n 2, 1) := by decide +kernel
theorem dX9_needsAtAll_46 : decode cX9_needsAtAll 46 = .ok (.imul, 1) := by decide +kernel
theorem dX9_needsAtAll_47 : decode cX9_needsAtAll 47 = .ok (.goto 4, 3) := by decide +kernel
theorem dX9_needsAtAll_50 : decode cX9_needsAtAll 50 = .ok (.iload_n 2, 1) := by decide +kernel
theorem dX9_needsAtAll_51 : decode cX9_needsAtAll 51 = .ok (.ireturn, 1) := by decide +kernel
theorem dX9_person_0 : decode cX9_person 0 = .ok (.aload_n 0, 1) := by decide +kernel
theorem dX9_person_1 : decode cX9_person 1 = .ok (.iconst 0, 1) := by decide +kernel
theorem dX9_person_2 : decode cX9_person 2 = .ok (.putfield 95, 3) := by decide +kernel
theorem dX9_person_5 : decode cX9_person 5 = .ok (.aload_n 0, 1) := by decide +kernel
theorem dX9_person_6 : decode cX9_person 6 = .ok (.iload_n 1, 1) := by decide +kernel
theorem dX9_person_7 : decode cX9_person 7 = .ok (.invokevirtual 288, 3) := by decide +kernel
theorem dX9_person_10 : decode cX9_person 10 = .ok (.ifCond .eq 28, 3) := by decide +kernel
theorem dX9_person_13 : decode cX9_person 13 = .ok (.iload_n 2, 1) := by decide +kernel
theorem dX9_person_14 : decode cX9_person 14 = .ok (.i2l, 1) := by decide +kernel
theorem dX9_person_15 : decode cX9_person 15 = .ok (.lconst 0, 1) := by decide +kernel
theorem dX9_person_16 : decode cX9_person 16 = .ok (.ldc2_w 291, 3) := by decide +kernel
theorem dX9_person_19 : decode cX9_person 19 = .ok (.invokestatic 100, 3) := by decide +kernel
theorem dX9_person_22 : decode cX9_person 22 = .ok (.ifCond .eq 16, 3) := by decide +kernel
theorem dX9_person_25 : decode cX9_person 25 = .ok (.aload_n 0, 1) := by decide +kernel
theorem dX9_person_26 : decode cX9_person 26 = .ok (.getfield 37, 3) := by decide +kernel
theorem dX9_person_29 : decode cX9_person 29 = .ok (.iconst 3, 1) := by decide +kernel
theorem dX9_person_30 : decode cX9_person 30 = .ok (.iload_n 1, 1) := by decide +kernel
theorem dX9_person_31 : decode cX9_person 31 = .ok (.imul, 1) := by decide +kernel
theorem dX9_person_32 : decode cX9_person 32 = .ok (.iload_n 2, 1) := by decide +kernel
theorem dX9_person_33 : decode cX9_person 33 = .ok (.iadd, 1) := by decide +kernel
theorem dX9_person_34 : decode cX9_person 34 = .ok (.iaload, 1) := by decide +kernel
theorem dX9_person_35 : decode cX9_person 35 = .ok (.goto 5, 3) := by decide +kernel
theorem dX9_person_38 : decode cX9_person 38 = .ok (.bipush (-2), 2) := by decide +kernel
theorem dX9_person_40 : decode cX9_person 40 = .ok (.ireturn, 1) := by decide +kernel
theorem dX9_hours_0 : decode cX9_hours 0 = .ok (.aload_n 0, 1) := by decide +kernel
theorem dX9_hours_1 : decode cX9_hours 1 = .ok (.iconst 0, 1) := by decide +kernel
theorem dX9_hours_2 : decode cX9_hours 2 = .ok (.putfield 95, 3) := by decide +kernel
theorem dX9_hours_5 : decode cX9_hours 5 = .ok (.aload_n 0, 1) := by decide +kernel
theorem dX9_hours_6 : decode cX9_hours 6 = .ok (.iload_n 1, 1) := by decide +kernel
theorem dX9_hours_7 : decode cX9_hours 7 = .ok (.invokevirtual 270, 3) := by decide +kernel
theorem dX9_hours_10 : decode cX9_hours 10 = .ok (.ifCond .eq 15, 3) := by decide +kernel
theorem dX9_hours_13 : decode cX9_hours 13 = .ok (.iload_n 2, 1) := by decide +kernel
theorem dX9_hours_14 : decode cX9_hours 14 = .ok (.i2l, 1) := by decide +kernel
theorem dX9_hours_15 : decode cX9_hours 15 = .ok (.lconst 1, 1) := by decide +kernel
theorem dX9_hours_16 : decode cX9_hours 16 = .ok (.ldc2_w 293, 3) := by decide +kernel
theorem dX9_hours_19 : decode cX9_hours 19 = .ok (.invokestatic 100, 3) := by decide +kernel
theorem dX9_hours_22 : decode cX9_hours 22 = .ok (.ifCond .ne 6, 3) := by decide +kernel
theorem dX9_hours_25 : decode cX9_hours 25 = .ok (.bipush (-2), 2) := by decide +kernel
theorem dX9_hours_27 : decode cX9_hours 27 = .ok (.ireturn, 1) := by decide +kernel
theorem dX9_hours_28 : decode cX9_hours 28 = .ok (.aload_n 0, 1) := by decide +kernel
theorem dX9_hours_29 : decode cX9_hours 29 = .ok (.getfield 40, 3) := by decide +kernel
theorem dX9_hours_32 : decode cX9_hours 32 = .ok (.bipush 8, 2) := by decide +kernel
theorem dX9_hours_34 : decode cX9_hours 34 = .ok (.iload_n 1, 1) := by decide +kernel
theorem dX9_hours_35 : decode cX9_hours 35 = .ok (.imul, 1) := by decide +kernel
theorem dX9_hours_36 : decode cX9_hours 36 = .ok (.iconst 3, 1) := by decide +kernel
theorem dX9_hours_37 : decode cX9_hours 37 = .ok (.iadd, 1) := by decide +kernel
theorem dX9_hours_38 : decode cX9_hours 38 = .ok (.iaload, 1) := by decide +kernel
theorem dX9_hours_39 : decode cX9_hours 39 = .ok (.istore_n 3, 1) := by decide +kernel
theorem dX9_hours_40 : decode cX9_hours 40 = .ok (.aload_n 0, 1) := by decide +kernel
theorem dX9_hours_41 : decode cX9_hours 41 = .ok (.getfield 40, 3) := by decide +kernel
theorem dX9_hours_44 : decode cX9_hours 44 = .ok (.bipush 8, 2) := by decide +kernel
theorem dX9_hours_46 : decode cX9_hours 46 = .ok (.iload_n 1, 1) := by decide +kernel
theorem dX9_hours_47 : decode cX9_hours 47 = .ok (.imul, 1) := by decide +kernel
theorem dX9_hours_48 : decode cX9_hours 48 = .ok (.iconst 3, 1) := by decide +kernel
theorem dX9_hours_49 : decode cX9_hours 49 = .ok (.iadd, 1) := by decide +kernel
theorem dX9_hours_50 : decode cX9_hours 50 = .ok (.iload_n 2, 1) := by decide +kernel
theorem dX9_hours_51 : decode cX9_hours 51 = .ok (.iastore, 1) := by decide +kernel
theorem dX9_hours_52 : decode cX9_hours 52 = .ok (.iload_n 3, 1) := by decide +kernel
theorem dX9_hours_53 : decode cX9_hours 53 = .ok (.ireturn, 1) := by decide +kernel
theorem dX9_law_0 : decode cX9_law 0 = .ok (.aload_n 0, 1) := by decide +kernel
theorem dX9_law_1 : decode cX9_law 1 = .ok (.iconst 0, 1) := by decide +kernel
theorem dX9_law_2 : decode cX9_law 2 = .ok (.putfield 95, 3) := by decide +kernel
theorem dX9_law_5 : decode cX9_law 5 = .ok (.aload_n 0, 1) := by decide +kernel
theorem dX9_law_6 : decode cX9_law 6 = .ok (.invokevirtual 295, 3) := by decide +kernel
theorem dX9_law_9 : decode cX9_law 9 = .ok (.ifCond .eq 15, 3) := by decide +kernel
theorem dX9_law_12 : decode cX9_law 12 = .ok (.iload_n 1, 1) := by decide +kernel
theorem dX9_law_13 : decode cX9_law 13 = .ok (.i2l, 1) := by decide +kernel
theorem dX9_law_14 : decode cX9_law 14 = .ok (.lconst 0, 1) := by decide +kernel
theorem dX9_law_15 : decode cX9_law 15 = .ok (.ldc2_w 98, 3) := by decide +kernel
theorem dX9_law_18 : decode cX9_law 18 = .ok (.invokestatic 100, 3) := by decide +kernel
theorem dX9_law_21 : decode cX9_law 21 = .ok (.ifCond .ne 6, 3) := by decide +kernel
theorem dX9_law_24 : decode cX9_law 24 = .ok (.bipush (-2), 2) := by decide +kernel
theorem dX9_law_26 : decode cX9_law 26 = .ok (.ireturn, 1) := by decide +kernel
theorem dX9_law_27 : decode cX9_law 27 = .ok (.aload_n 0, 1) := by decide +kernel
theorem dX9_law_28 : decode cX9_law 28 = .ok (.getfield 34, 3) := by decide +kernel
theorem dX9_law_31 : decode cX9_law 31 = .ok (.iconst 4, 1) := by decide +kernel
theorem dX9_law_32 : decode cX9_law 32 = .ok (.iaload, 1) := by decide +kernel
theorem dX9_law_33 : decode cX9_law 33 = .ok (.istore_n 2, 1) := by decide +kernel
theorem dX9_law_34 : decode cX9_law 34 = .ok (.aload_n 0, 1) := by decide +kernel
theorem dX9_law_35 : decode cX9_law 35 = .ok (.getfield 34, 3) := by decide +kernel
theorem dX9_law_38 : decode cX9_law 38 = .ok (.iconst 4, 1) := by decide +kernel
theorem dX9_law_39 : decode cX9_law 39 = .ok (.iload_n 1, 1) := by decide +kernel
theorem dX9_law_40 : decode cX9_law 40 = .ok (.iastore, 1) := by decide +kernel
theorem dX9_law_41 : decode cX9_law 41 = .ok (.iload_n 2, 1) := by decide +kernel
theorem dX9_law_42 : decode cX9_law 42 = .ok (.ireturn, 1) := by decide +kernel
theorem dX9_plainly_0 : decode cX9_plainly 0 = .ok (.aload_n 0, 1) := by decide +kernel
theorem dX9_plainly_1 : decode cX9_plainly 1 = .ok (.aload_n 0, 1) := by decide +kernel
theorem dX9_plainly_2 : decode cX9_plainly 2 = .ok (.getfield 34, 3) := by decide +kernel
theorem dX9_plainly_5 : decode cX9_plainly 5 = .ok (.iconst 4, 1) := by decide +kernel
theorem dX9_plainly_6 : decode cX9_plainly 6 = .ok (.iaload, 1) := by decide +kernel
theorem dX9_plainly_7 : decode cX9_plainly 7 = .ok (.putfield 298, 3) := by decide +kernel
theorem dX9_plainly_10 : decode cX9_plainly 10 = .ok (.aload_n 0, 1) := by decide +kernel
theorem dX9_plainly_11 : decode cX9_plainly 11 = .ok (.aload_n 0, 1) := by decide +kernel
theorem dX9_plainly_12 : decode cX9_plainly 12 = .ok (.getfield 34, 3) := by decide +kernel
theorem dX9_plainly_15 : decode cX9_plainly 15 = .ok (.iconst 5, 1) := by decide +kernel
theorem dX9_plainly_16 : decode cX9_plainly 16 = .ok (.iaload, 1) := by decide +kernel
theorem dX9_plainly_17 : decode cX9_plainly 17 = .ok (.i2l, 1) := by decide +kernel
theorem dX9_plainly_18 : decode cX9_plainly 18 = .ok (.putfield 301, 3) := by decide +kernel
theorem dX9_plainly_21 : decode cX9_plainly 21 = .ok (.iconst 0, 1) := by decide +kernel
theorem dX9_plainly_22 : decode cX9_plainly 22 = .ok (.istore_n 1, 1) := by decide +kernel
theorem dX9_plainly_23 : decode cX9_plainly 23 = .ok (.iload_n 1, 1) := by decide +kernel
theorem dX9_plainly_24 : decode cX9_plainly 24 = .ok (.bipush 49, 2) := by decide +kernel
theorem dX9_plainly_26 : decode cX9_plainly 26 = .ok (.if_icmp .ge 16, 3) := by decide +kernel
theorem dX9_plainly_29 : decode cX9_plainly 29 = .ok (.aload_n 0, 1) := by decide +kernel
theorem dX9_plainly_30 : decode cX9_plainly 30 = .ok (.getfield 77, 3) := by decide +kernel
theorem dX9_plainly_33 : decode cX9_plainly 33 = .ok (.iload_n 1, 1) := by decide +kernel
theorem dX9_plainly_34 : decode cX9_plainly 34 = .ok (.iload_n 1, 1) := by decide +kernel
theorem dX9_plainly_35 : decode cX9_plainly 35 = .ok (.iastore, 1) := by decide +kernel
theorem dX9_plainly_36 : decode cX9_plainly 36 = .ok (.iinc 1 1, 3) := by decide +kernel
theorem dX9_plainly_39 : decode cX9_plainly 39 = .ok (.goto (-16), 3) := by decide +kernel
theorem dX9_plainly_42 : decode cX9_plainly 42 = .ok (.aload_n 0, 1) := by decide +kernel
theorem dX9_plainly_43 : decode cX9_plainly 43 = .ok (.iconst 0, 1) := by decide +kernel
theorem dX9_plainly_44 : decode cX9_plainly 44 = .ok (.putfield 304, 3) := by decide +kernel
theorem dX9_plainly_47 : decode cX9_plainly 47 = .ok (.aload_n 0, 1) := by decide +kernel
theorem dX9_plainly_48 : decode cX9_plainly 48 = .ok (.iconst (-1), 1) := by decide +kernel
theorem dX9_plainly_49 : decode cX9_plainly 49 = .ok (.putfield 307, 3) := by decide +kernel
theorem dX9_plainly_52 : decode cX9_plainly 52 = .ok (.aload_n 0, 1) := by decide +kernel
theorem dX9_plainly_53 : decode cX9_plainly 53 = .ok (.iconst (-1), 1) := by decide +kernel
theorem dX9_plainly_54 : decode cX9_plainly 54 = .ok (.putfield 310, 3) := by decide +kernel
theorem dX9_plainly_57 : decode cX9_plainly 57 = .ok (.aload_n 0, 1) := by decide +kernel
theorem dX9_plainly_58 : decode cX9_plainly 58 = .ok (.iconst 0, 1) := by decide +kernel
theorem dX9_plainly_59 : decode cX9_plainly 59 = .ok (.putfield 313, 3) := by decide +kernel
theorem dX9_plainly_62 : decode cX9_plainly 62 = .ok (.return_, 1) := by decide +kernel
theorem dX9_isOnPile_0 : decode cX9_isOnPile 0 = .ok (.aload_n 0, 1) := by decide +kernel
theorem dX9_isOnPile_1 : decode cX9_isOnPile 1 = .ok (.getfield 50, 3) := by decide +kernel
theorem dX9_isOnPile_4 : decode cX9_isOnPile 4 = .ok (.iload_n 1, 1) := by decide +kernel
theorem dX9_isOnPile_5 : decode cX9_isOnPile 5 = .ok (.iaload, 1) := by decide +kernel
theorem dX9_isOnPile_6 : decode cX9_isOnPile 6 = .ok (.iconst (-1), 1) := by decide +kernel
theorem dX9_isOnPile_7 : decode cX9_isOnPile 7 = .ok (.if_icmp .eq 45, 3) := by decide +kernel
theorem dX9_isOnPile_10 : decode cX9_isOnPile 10 = .ok (.aload_n 0, 1) := by decide +kernel
theorem dX9_isOnPile_11 : decode cX9_isOnPile 11 = .ok (.getfield 50, 3) := by decide +kernel
theorem dX9_isOnPile_14 : decode cX9_isOnPile 14 = .ok (.iload_n 1, 1) := by decide +kernel
theorem dX9_isOnPile_15 : decode cX9_isOnPile 15 = .ok (.iaload, 1) := by decide +kernel
theorem dX9_isOnPile_16 : decode cX9_isOnPile 16 = .ok (.iload_n 3, 1) := by decide +kernel
theorem dX9_isOnPile_17 : decode cX9_isOnPile 17 = .ok (.if_icmp .gt 35, 3) := by decide +kernel
theorem dX9_isOnPile_20 : decode cX9_isOnPile 20 = .ok (.aload_n 0, 1) := by decide +kernel
theorem dX9_isOnPile_21 : decode cX9_isOnPile 21 = .ok (.getfield 53, 3) := by decide +kernel
theorem dX9_isOnPile_24 : decode cX9_isOnPile 24 = .ok (.iload_n 1, 1) := by decide +kernel
theorem dX9_isOnPile_25 : decode cX9_isOnPile 25 = .ok (.iaload, 1) := by decide +kernel
theorem dX9_isOnPile_26 : decode cX9_isOnPile 26 = .ok (.iconst (-1), 1) := by decide +kernel
theorem dX9_isOnPile_27 : decode cX9_isOnPile 27 = .ok (.if_icmp .ne 25, 3) := by decide +kernel
theorem dX9_isOnPile_30 : decode cX9_isOnPile 30 = .ok (.aload_n 0, 1) := by decide +kernel
theorem dX9_isOnPile_31 : decode cX9_isOnPile 31 = .ok (.getfield 62, 3) := by decide +kernel
theorem dX9_isOnPile_34 : decode cX9_isOnPile 34 = .ok (.iload_n 1, 1) := by decide +kernel
theorem dX9_isOnPile_35 : decode cX9_isOnPile 35 = .ok (.baload, 1) := by decide +kernel
theorem dX9_isOnPile_36 : decode cX9_isOnPile 36 = .ok (.ifCond .ne 16, 3) := by decide +kernel
theorem dX9_isOnPile_39 : decode cX9_isOnPile 39 = .ok (.aload_n 0, 1) := by decide +kernel
theorem dX9_isOnPile_40 : decode cX9_isOnPile 40 = .ok (.iload_n 1, 1) := by decide +kernel
theorem dX9_isOnPile_41 : decode cX9_isOnPile 41 = .ok (.invokevirtual 279, 3) := by decide +kernel
theorem dX9_isOnPile_44 : decode cX9_isOnPile 44 = .ok (.iload_n 2, 1) := by decide +kernel
theorem dX9_isOnPile_45 : decode cX9_isOnPile 45 = .ok (.if_icmp .ne 7, 3) := by decide +kernel
theorem dX9_isOnPile_48 : decode cX9_isOnPile 48 = .ok (.iconst 1, 1) := by decide +kernel
theorem dX9_isOnPile_49 : decode cX9_isOnPile 49 = .ok (.goto 4, 3) := by decide +kernel
theorem dX9_isOnPile_52 : decode cX9_isOnPile 52 = .ok (.iconst 0, 1) := by decide +kernel
theorem dX9_isOnPile_53 : decode cX9_isOnPile 53 = .ok (.ireturn, 1) := by decide +kernel
theorem dX9_isAhead_0 : decode cX9_isAhead 0 = .ok (.aload_n 0, 1) := by decide +kernel
theorem dX9_isAhead_1 : decode cX9_isAhead 1 = .ok (.getfield 298, 3) := by decide +kernel
theorem dX9_isAhead_4 : decode cX9_isAhead 4 = .ok (.iconst 2, 1) := by decide +kernel
theorem dX9_isAhead_5 : decode cX9_isAhead 5 = .ok (.if_icmp .ne 35, 3) := by decide +kernel
theorem dX9_isAhead_8 : decode cX9_isAhead 8 = .ok (.aload_n 0, 1) := by decide +kernel
theorem dX9_isAhead_9 : decode cX9_isAhead 9 = .ok (.iload_n 1, 1) := by decide +kernel
theorem dX9_isAhead_10 : decode cX9_isAhead 10 = .ok (.invokevirtual 285, 3) := by decide +kernel
theorem dX9_isAhead_13 : decode cX9_isAhead 13 = .ok (.aload_n 0, 1) := by decide +kernel
theorem dX9_isAhead_14 : decode cX9_isAhead 14 = .ok (.iload_n 2, 1) := by decide +kernel
theorem dX9_isAhead_15 : decode cX9_isAhead 15 = .ok (.invokevirtual 285, 3) := by decide +kernel
theorem dX9_isAhead_18 : decode cX9_isAhead 18 = .ok (.if_icmp .eq 22, 3) := by decide +kernel
theorem dX9_isAhead_21 : decode cX9_isAhead 21 = .ok (.aload_n 0, 1) := by decide +kernel
theorem dX9_isAhead_22 : decode cX9_isAhead 22 = .ok (.iload_n 1, 1) := by decide +kernel
theorem dX9_isAhead_23 : decode cX9_isAhead 23 = .ok (.invokevirtual 285, 3) := by decide +kernel
theorem dX9_isAhead_26 : decode cX9_isAhead 26 = .ok (.aload_n 0, 1) := by decide +kernel
theorem dX9_isAhead_27 : decode cX9_isAhead 27 = .ok (.iload_n 2, 1) := by decide +kernel
theorem dX9_isAhead_28 : decode cX9_isAhead 28 = .ok (.invokevirtual 285, 3) := by decide +kernel
theorem dX9_isAhead_31 : decode cX9_isAhead 31 = .ok (.if_icmp .le 7, 3) := by decide +kernel
theorem dX9_isAhead_34 : decode cX9_isAhead 34 = .ok (.iconst 1, 1) := by decide +kernel
theorem dX9_isAhead_35 : decode cX9_isAhead 35 = .ok (.goto 4, 3) := by decide +kernel
theorem dX9_isAhead_38 : decode cX9_isAhead 38 = .ok (.iconst 0, 1) := by decide +kernel
theorem dX9_isAhead_39 : decode cX9_isAhead 39 = .ok (.ireturn, 1) := by decide +kernel
theorem dX9_isAhead_40 : decode cX9_isAhead 40 = .ok (.aload_n 0, 1) := by decide +kernel
theorem dX9_isAhead_41 : decode cX9_isAhead 41 = .ok (.getfield 50, 3) := by decide +kernel
theorem dX9_isAhead_44 : decode cX9_isAhead 44 = .ok (.iload_n 1, 1) := by decide +kernel
theorem dX9_isAhead_45 : decode cX9_isAhead 45 = .ok (.iaload, 1) := by decide +kernel
theorem dX9_isAhead_46 : decode cX9_isAhead 46 = .ok (.aload_n 0, 1) := by decide +kernel
theorem dX9_isAhead_47 : decode cX9_isAhead 47 = .ok (.getfield 50, 3) := by decide +kernel
theorem dX9_isAhead_50 : decode cX9_isAhead 50 = .ok (.iload_n 2, 1) := by decide +kernel
theorem dX9_isAhead_51 : decode cX9_isAhead 51 = .ok (.iaload, 1) := by decide +kernel
theorem dX9_isAhead_52 : decode cX9_isAhead 52 = .ok (.if_icmp .eq 55, 3) := by decide +kernel
theorem dX9_isAhead_55 : decode cX9_isAhead 55 = .ok (.aload_n 0, 1) := by decide +kernel
theorem dX9_isAhead_56 : decode cX9_isAhead 56 = .ok (.getfield 298, 3) := by decide +kernel
theorem dX9_isAhead_59 : decode cX9_isAhead 59 = .ok (.iconst 1, 1) := by decide +kernel
theorem dX9_isAhead_60 : decode cX9_isAhead 60 = .ok (.if_icmp .ne 26, 3) := by decide +kernel
theorem dX9_isAhead_63 : decode cX9_isAhead 63 = .ok (.aload_n 0, 1) := by decide +kernel
theorem dX9_isAhead_64 : decode cX9_isAhead 64 = .ok (.getfield 50, 3) := by decide +kernel
theorem dX9_isAhead_67 : decode cX9_isAhead 67 = .ok (.iload_n 1, 1) := by decide +kernel
theorem dX9_isAhead_68 : decode cX9_isAhead 68 = .ok (.iaload, 1) := by decide +kernel
theorem dX9_isAhead_69 : decode cX9_isAhead 69 = .ok (.aload_n 0, 1) := by decide +kernel
theorem dX9_isAhead_70 : decode cX9_isAhead 70 = .ok (.getfield 50, 3) := by decide +kernel
theorem dX9_isAhead_73 : decode cX9_isAhead 73 = .ok (.iload_n 2, 1) := by decide +kernel
theorem dX9_isAhead_74 : decode cX9_isAhead 74 = .ok (.iaload, 1) := by decide +kernel
theorem dX9_isAhead_75 : decode cX9_isAhead 75 = .ok (.if_icmp .le 7, 3) := by decide +kernel
theorem dX9_isAhead_78 : decode cX9_isAhead 78 = .ok (.iconst 1, 1) := by decide +kernel
theorem dX9_isAhead_79 : decode cX9_isAhead 79 = .ok (.goto 27, 3) := by decide +kernel
theorem dX9_isAhead_82 : decode cX9_isAhead 82 = .ok (.iconst 0, 1) := by decide +kernel
theorem dX9_isAhead_83 : decode cX9_isAhead 83 = .ok (.goto 23, 3) := by decide +kernel
theorem dX9_isAhead_86 : decode cX9_isAhead 86 = .ok (.aload_n 0, 1) := by decide +kernel
theorem dX9_isAhead_87 : decode cX9_isAhead 87 = .ok (.getfield 50, 3) := by decide +kernel
theorem dX9_isAhead_90 : decode cX9_isAhead 90 = .ok (.iload_n 1, 1) := by decide +kernel
theorem dX9_isAhead_91 : decode cX9_isAhead 91 = .ok (.iaload, 1) := by decide +kernel
theorem dX9_isAhead_92 : decode cX9_isAhead 92 = .ok (.aload_n 0, 1) := by decide +kernel
theorem dX9_isAhead_93 : decode cX9_isAhead 93 = .ok (.getfield 50, 3) := by decide +kernel
theorem dX9_isAhead_96 : decode cX9_isAhead 96 = .ok (.iload_n 2, 1) := by decide +kernel
theorem dX9_isAhead_97 : decode cX9_isAhead 97 = .ok (.iaload, 1) := by decide +kernel
theorem dX9_isAhead_98 : decode cX9_isAhead 98 = .ok (.if_icmp .ge 7, 3) := by decide +kernel
theorem dX9_isAhead_101 : decode cX9_isAhead 101 = .ok (.iconst 1, 1) := by decide +kernel
theorem dX9_isAhead_102 : decode cX9_isAhead 102 = .ok (.goto 4, 3) := by decide +kernel
theorem dX9_isAhead_105 : decode cX9_isAhead 105 = .ok (.iconst 0, 1) := by decide +kernel
theorem dX9_isAhead_106 : decode cX9_isAhead 106 = .ok (.ireturn, 1) := by decide +kernel
theorem dX9_isAhead_107 : decode cX9_isAhead 107 = .ok (.aload_n 0, 1) := by decide +kernel
theorem dX9_isAhead_108 : decode cX9_isAhead 108 = .ok (.getfield 298, 3) := by decide +kernel
theorem dX9_isAhead_111 : decode cX9_isAhead 111 = .ok (.iconst 1, 1) := by decide +kernel
theorem dX9_isAhead_112 : decode cX9_isAhead 112 = .ok (.if_icmp .ne 26, 3) := by decide +kernel
theorem dX9_isAhead_115 : decode cX9_isAhead 115 = .ok (.aload_n 0, 1) := by decide +kernel
theorem dX9_isAhead_116 : decode cX9_isAhead 116 = .ok (.getfield 77, 3) := by decide +kernel
theorem dX9_isAhead_119 : decode cX9_isAhead 119 = .ok (.iload_n 1, 1) := by decide +kernel
theorem dX9_isAhead_120 : decode cX9_isAhead 120 = .ok (.iaload, 1) := by decide +kernel
theorem dX9_isAhead_121 : decode cX9_isAhead 121 = .ok (.aload_n 0, 1) := by decide +kernel
theorem dX9_isAhead_122 : decode cX9_isAhead 122 = .ok (.getfield 77, 3) := by decide +kernel
theorem dX9_isAhead_125 : decode cX9_isAhead 125 = .ok (.iload_n 2, 1) := by decide +kernel
theorem dX9_isAhead_126 : decode cX9_isAhead 126 = .ok (.iaload, 1) := by decide +kernel
theorem dX9_isAhead_127 : decode cX9_isAhead 127 = .ok (.if_icmp .le 7, 3) := by decide +kernel
theorem dX9_isAhead_130 : decode cX9_isAhead 130 = .ok (.iconst 1, 1) := by decide +kernel
theorem dX9_isAhead_131 : decode cX9_isAhead 131 = .ok (.goto 27, 3) := by decide +kernel
theorem dX9_isAhead_134 : decode cX9_isAhead 134 = .ok (.iconst 0, 1) := by decide +kernel
theorem dX9_isAhead_135 : decode cX9_isAhead 135 = .ok (.goto 23, 3) := by decide +kernel
theorem dX9_isAhead_138 : decode cX9_isAhead 138 = .ok (.aload_n 0, 1) := by decide +kernel
theorem dX9_isAhead_139 : decode cX9_isAhead 139 = .ok (.getfield 77, 3) := by decide +kernel
theorem dX9_isAhead_142 : decode cX9_isAhead 142 = .ok (.iload_n 1, 1) := by decide +kernel
theorem dX9_isAhead_143 : decode cX9_isAhead 143 = .ok (.iaload, 1) := by decide +kernel
theorem dX9_isAhead_144 : decode cX9_isAhead 144 = .ok (.aload_n 0, 1) := by decide +kernel
theorem dX9_isAhead_145 : decode cX9_isAhead 145 = .ok (.getfield 77, 3) := by decide +kernel
theorem dX9_isAhead_148 : decode cX9_isAhead 148 = .ok (.iload_n 2, 1) := by decide +kernel
theorem dX9_isAhead_149 : decode cX9_isAhead 149 = .ok (.iaload, 1) := by decide +kernel
theorem dX9_isAhead_150 : decode cX9_isAhead 150 = .ok (.if_icmp .ge 7, 3) := by decide +kernel
theorem dX9_isAhead_153 : decode cX9_isAhead 153 = .ok (.iconst 1, 1) := by decide +kernel
theorem dX9_isAhead_154 : decode cX9_isAhead 154 = .ok (.goto 4, 3) := by decide +kernel
theorem dX9_isAhead_157 : decode cX9_isAhead 157 = .ok (.iconst 0, 1) := by decide +kernel
theorem dX9_isAhead_158 : decode cX9_isAhead 158 = .ok (.ireturn, 1) := by decide +kernel
theorem dX9_firstOf_0 : decode cX9_firstOf 0 = .ok (.iconst (-1), 1) := by decide +kernel
theorem dX9_firstOf_1 : decode cX9_firstOf 1 = .ok (.istore_n 3, 1) := by decide +kernel
theorem dX9_firstOf_2 : decode cX9_firstOf 2 = .ok (.iconst 0, 1) := by decide +kernel
theorem dX9_firstOf_3 : decode cX9_firstOf 3 = .ok (.istore 4, 2) := by decide +kernel
theorem dX9_firstOf_5 : decode cX9_firstOf 5 = .ok (.iload 4, 2) := by decide +kernel
theorem dX9_firstOf_7 : decode cX9_firstOf 7 = .ok (.bipush 49, 2) := by decide +kernel
theorem dX9_firstOf_9 : decode cX9_firstOf 9 = .ok (.if_icmp .ge 38, 3) := by decide +kernel
theorem dX9_firstOf_12 : decode cX9_firstOf 12 = .ok (.aload_n 0, 1) := by decide +kernel
theorem dX9_firstOf_13 : decode cX9_firstOf 13 = .ok (.iload 4, 2) := by decide +kernel
theorem dX9_firstOf_15 : decode cX9_firstOf 15 = .ok (.iload_n 1, 1) := by decide +kernel
theorem dX9_firstOf_16 : decode cX9_firstOf 16 = .ok (.iload_n 2, 1) := by decide +kernel
theorem dX9_firstOf_17 : decode cX9_firstOf 17 = .ok (.invokevirtual 316, 3) := by decide +kernel
theorem dX9_firstOf_20 : decode cX9_firstOf 20 = .ok (.ifCond .eq 21, 3) := by decide +kernel
theorem dX9_firstOf_23 : decode cX9_firstOf 23 = .ok (.iload_n 3, 1) := by decide +kernel
theorem dX9_firstOf_24 : decode cX9_firstOf 24 = .ok (.iconst (-1), 1) := by decide +kernel
theorem dX9_firstOf_25 : decode cX9_firstOf 25 = .ok (.if_icmp .eq 13, 3) := by decide +kernel
theorem dX9_firstOf_28 : decode cX9_firstOf 28 = .ok (.aload_n 0, 1) := by decide +kernel
theorem dX9_firstOf_29 : decode cX9_firstOf 29 = .ok (.iload 4, 2) := by decide +kernel
theorem dX9_firstOf_31 : decode cX9_firstOf 31 = .ok (.iload_n 3, 1) := by decide +kernel
theorem dX9_firstOf_32 : decode cX9_firstOf 32 = .ok (.invokevirtual 319, 3) := by decide +kernel
theorem dX9_firstOf_35 : decode cX9_firstOf 35 = .ok (.ifCond .eq 6, 3) := by decide +kernel
theorem dX9_firstOf_38 : decode cX9_firstOf 38 = .ok (.iload 4, 2) := by decide +kernel
theorem dX9_firstOf_40 : decode cX9_firstOf 40 = .ok (.istore_n 3, 1) := by decide +kernel
theorem dX9_firstOf_41 : decode cX9_firstOf 41 = .ok (.iinc 4 1, 3) := by decide +kernel
theorem dX9_firstOf_44 : decode cX9_firstOf 44 = .ok (.goto (-39), 3) := by decide +kernel
theorem dX9_firstOf_47 : decode cX9_firstOf 47 = .ok (.iload_n 3, 1) := by decide +kernel
theorem dX9_firstOf_48 : decode cX9_firstOf 48 = .ok (.ireturn, 1) := by decide +kernel
theorem dX9_manyOn_0 : decode cX9_manyOn 0 = .ok (.iconst 0, 1) := by decide +kernel
theorem dX9_manyOn_1 : decode cX9_manyOn 1 = .ok (.istore_n 3, 1) := by decide +kernel
theorem dX9_manyOn_2 : decode cX9_manyOn 2 = .ok (.iconst 0, 1) := by decide +kernel
theorem dX9_manyOn_3 : decode cX9_manyOn 3 = .ok (.istore 4, 2) := by decide +kernel
theorem dX9_manyOn_5 : decode cX9_manyOn 5 = .ok (.iload 4, 2) := by decide +kernel
theorem dX9_manyOn_7 : decode cX9_manyOn 7 = .ok (.bipush 49, 2) := by decide +kernel
theorem dX9_manyOn_9 : decode cX9_manyOn 9 = .ok (.if_icmp .ge 28, 3) := by decide +kernel
theorem dX9_manyOn_12 : decode cX9_manyOn 12 = .ok (.iload_n 3, 1) := by decide +kernel
theorem dX9_manyOn_13 : decode cX9_manyOn 13 = .ok (.aload_n 0, 1) := by decide +kernel
theorem dX9_manyOn_14 : decode cX9_manyOn 14 = .ok (.iload 4, 2) := by decide +kernel
theorem dX9_manyOn_16 : decode cX9_manyOn 16 = .ok (.iload_n 1, 1) := by decide +kernel
theorem dX9_manyOn_17 : decode cX9_manyOn 17 = .ok (.iload_n 2, 1) := by decide +kernel
theorem dX9_manyOn_18 : decode cX9_manyOn 18 = .ok (.invokevirtual 316, 3) := by decide +kernel
theorem dX9_manyOn_21 : decode cX9_manyOn 21 = .ok (.ifCond .eq 7, 3) := by decide +kernel
theorem dX9_manyOn_24 : decode cX9_manyOn 24 = .ok (.iconst 1, 1) := by decide +kernel
theorem dX9_manyOn_25 : decode cX9_manyOn 25 = .ok (.goto 4, 3) := by decide +kernel
theorem dX9_manyOn_28 : decode cX9_manyOn 28 = .ok (.iconst 0, 1) := by decide +kernel
theorem dX9_manyOn_29 : decode cX9_manyOn 29 = .ok (.iadd, 1) := by decide +kernel
theorem dX9_manyOn_30 : decode cX9_manyOn 30 = .ok (.istore_n 3, 1) := by decide +kernel
theorem dX9_manyOn_31 : decode cX9_manyOn 31 = .ok (.iinc 4 1, 3) := by decide +kernel
theorem dX9_manyOn_34 : decode cX9_manyOn 34 = .ok (.goto (-29), 3) := by decide +kernel
theorem dX9_manyOn_37 : decode cX9_manyOn 37 = .ok (.iload_n 3, 1) := by decide +kernel
theorem dX9_manyOn_38 : decode cX9_manyOn 38 = .ok (.ireturn, 1) := by decide +kernel
theorem dX9_drawn_0 : decode cX9_drawn 0 = .ok (.aload_n 0, 1) := by decide +kernel
theorem dX9_drawn_1 : decode cX9_drawn 1 = .ok (.ldc2_w 323, 3) := by decide +kernel
theorem dX9_drawn_4 : decode cX9_drawn 4 = .ok (.aload_n 0, 1) := by decide +kernel
theorem dX9_drawn_5 : decode cX9_drawn 5 = .ok (.getfield 301, 3) := by decide +kernel
theorem dX9_drawn_8 : decode cX9_drawn 8 = .ok (.lmul, 1) := by decide +kernel
theorem dX9_drawn_9 : decode cX9_drawn 9 = .ok (.ldc2_w 325, 3) := by decide +kernel
theorem dX9_drawn_12 : decode cX9_drawn 12 = .ok (.ladd, 1) := by decide +kernel
theorem dX9_drawn_13 : decode cX9_drawn 13 = .ok (.ldc2_w 327, 3) := by decide +kernel
theorem dX9_drawn_16 : decode cX9_drawn 16 = .ok (.lrem, 1) := by decide +kernel
theorem dX9_drawn_17 : decode cX9_drawn 17 = .ok (.putfield 301, 3) := by decide +kernel
theorem dX9_drawn_20 : decode cX9_drawn 20 = .ok (.aload_n 0, 1) := by decide +kernel
theorem dX9_drawn_21 : decode cX9_drawn 21 = .ok (.getfield 301, 3) := by decide +kernel
theorem dX9_drawn_24 : decode cX9_drawn 24 = .ok (.ldc2_w 329, 3) := by decide +kernel
theorem dX9_drawn_27 : decode cX9_drawn 27 = .ok (.ldiv, 1) := by decide +kernel
theorem dX9_drawn_28 : decode cX9_drawn 28 = .ok (.iload_n 1, 1) := by decide +kernel
theorem dX9_drawn_29 : decode cX9_drawn 29 = .ok (.i2l, 1) := by decide +kernel
theorem dX9_drawn_30 : decode cX9_drawn 30 = .ok (.lrem, 1) := by decide +kernel
theorem dX9_drawn_31 : decode cX9_drawn 31 = .ok (.l2i, 1) := by decide +kernel
theorem dX9_drawn_32 : decode cX9_drawn 32 = .ok (.ireturn, 1) := by decide +kernel
theorem dX9_drawnOf_0 : decode cX9_drawnOf 0 = .ok (.aload_n 0, 1) := by decide +kernel
theorem dX9_drawnOf_1 : decode cX9_drawnOf 1 = .ok (.aload_n 0, 1) := by decide +kernel
theorem dX9_drawnOf_2 : decode cX9_drawnOf 2 = .ok (.iload_n 1, 1) := by decide +kernel
theorem dX9_drawnOf_3 : decode cX9_drawnOf 3 = .ok (.iload_n 2, 1) := by decide +kernel
theorem dX9_drawnOf_4 : decode cX9_drawnOf 4 = .ok (.invokevirtual 331, 3) := by decide +kernel
theorem dX9_drawnOf_7 : decode cX9_drawnOf 7 = .ok (.invokevirtual 334, 3) := by decide +kernel
theorem dX9_drawnOf_10 : decode cX9_drawnOf 10 = .ok (.istore_n 3, 1) := by decide +kernel
theorem dX9_drawnOf_11 : decode cX9_drawnOf 11 = .ok (.iconst 0, 1) := by decide +kernel
theorem dX9_drawnOf_12 : decode cX9_drawnOf 12 = .ok (.istore 4, 2) := by decide +kernel
theorem dX9_drawnOf_14 : decode cX9_drawnOf 14 = .ok (.iload 4, 2) := by decide +kernel
theorem dX9_drawnOf_16 : decode cX9_drawnOf 16 = .ok (.bipush 49, 2) := by decide +kernel
theorem dX9_drawnOf_18 : decode cX9_drawnOf 18 = .ok (.if_icmp .ge 86, 3) := by decide +kernel
theorem dX9_drawnOf_21 : decode cX9_drawnOf 21 = .ok (.iconst 0, 1) := by decide +kernel
theorem dX9_drawnOf_22 : decode cX9_drawnOf 22 = .ok (.istore 5, 2) := by decide +kernel
theorem dX9_drawnOf_24 : decode cX9_drawnOf 24 = .ok (.iconst 0, 1) := by decide +kernel
theorem dX9_drawnOf_25 : decode cX9_drawnOf 25 = .ok (.istore 6, 2) := by decide +kernel
theorem dX9_drawnOf_27 : decode cX9_drawnOf 27 = .ok (.iload 6, 2) := by decide +kernel
theorem dX9_drawnOf_29 : decode cX9_drawnOf 29 = .ok (.bipush 49, 2) := by decide +kernel
theorem dX9_drawnOf_31 : decode cX9_drawnOf 31 = .ok (.if_icmp .ge 47, 3) := by decide +kernel
theorem dX9_drawnOf_34 : decode cX9_drawnOf 34 = .ok (.iload 5, 2) := by decide +kernel
theorem dX9_drawnOf_36 : decode cX9_drawnOf 36 = .ok (.aload_n 0, 1) := by decide +kernel
theorem dX9_drawnOf_37 : decode cX9_drawnOf 37 = .ok (.iload 6, 2) := by decide +kernel
theorem dX9_drawnOf_39 : decode cX9_drawnOf 39 = .ok (.iload_n 1, 1) := by decide +kernel
theorem dX9_drawnOf_40 : decode cX9_drawnOf 40 = .ok (.iload_n 2, 1) := by decide +kernel
theorem dX9_drawnOf_41 : decode cX9_drawnOf 41 = .ok (.invokevirtual 316, 3) := by decide +kernel
theorem dX9_drawnOf_44 : decode cX9_drawnOf 44 = .ok (.ifCond .eq 24, 3) := by decide +kernel
theorem dX9_drawnOf_47 : decode cX9_drawnOf 47 = .ok (.aload_n 0, 1) := by decide +kernel
theorem dX9_drawnOf_48 : decode cX9_drawnOf 48 = .ok (.getfield 77, 3) := by decide +kernel
theorem dX9_drawnOf_51 : decode cX9_drawnOf 51 = .ok (.iload 6, 2) := by decide +kernel
theorem dX9_drawnOf_53 : decode cX9_drawnOf 53 = .ok (.iaload, 1) := by decide +kernel
theorem dX9_drawnOf_54 : decode cX9_drawnOf 54 = .ok (.aload_n 0, 1) := by decide +kernel
theorem dX9_drawnOf_55 : decode cX9_drawnOf 55 = .ok (.getfield 77, 3) := by decide +kernel
theorem dX9_drawnOf_58 : decode cX9_drawnOf 58 = .ok (.iload 4, 2) := by decide +kernel
theorem dX9_drawnOf_60 : decode cX9_drawnOf 60 = .ok (.iaload, 1) := by decide +kernel
theorem dX9_drawnOf_61 : decode cX9_drawnOf 61 = .ok (.if_icmp .ge 7, 3) := by decide +kernel
theorem dX9_drawnOf_64 : decode cX9_drawnOf 64 = .ok (.iconst 1, 1) := by decide +kernel
theorem dX9_drawnOf_65 : decode cX9_drawnOf 65 = .ok (.goto 4, 3) := by decide +kernel
theorem dX9_drawnOf_68 : decode cX9_drawnOf 68 = .ok (.iconst 0, 1) := by decide +kernel
theorem dX9_drawnOf_69 : decode cX9_drawnOf 69 = .ok (.iadd, 1) := by decide +kernel
theorem dX9_drawnOf_70 : decode cX9_drawnOf 70 = .ok (.istore 5, 2) := by decide +kernel
theorem dX9_drawnOf_72 : decode cX9_drawnOf 72 = .ok (.iinc 6 1, 3) := by decide +kernel
theorem dX9_drawnOf_75 : decode cX9_drawnOf 75 = .ok (.goto (-48), 3) := by decide +kernel
theorem dX9_drawnOf_78 : decode cX9_drawnOf 78 = .ok (.aload_n 0, 1) := by decide +kernel
theorem dX9_drawnOf_79 : decode cX9_drawnOf 79 = .ok (.iload 4, 2) := by decide +kernel
theorem dX9_drawnOf_81 : decode cX9_drawnOf 81 = .ok (.iload_n 1, 1) := by decide +kernel
theorem dX9_drawnOf_82 : decode cX9_drawnOf 82 = .ok (.iload_n 2, 1) := by decide +kernel
theorem dX9_drawnOf_83 : decode cX9_drawnOf 83 = .ok (.invokevirtual 316, 3) := by decide +kernel
theorem dX9_drawnOf_86 : decode cX9_drawnOf 86 = .ok (.ifCond .eq 12, 3) := by decide +kernel
theorem dX9_drawnOf_89 : decode cX9_drawnOf 89 = .ok (.iload 5, 2) := by decide +kernel
theorem dX9_drawnOf_91 : decode cX9_drawnOf 91 = .ok (.iload_n 3, 1) := by decide +kernel
theorem dX9_drawnOf_92 : decode cX9_drawnOf 92 = .ok (.if_icmp .ne 6, 3) := by decide +kernel
theorem dX9_drawnOf_95 : decode cX9_drawnOf 95 = .ok (.iload 4, 2) := by decide +kernel
theorem dX9_drawnOf_97 : decode cX9_drawnOf 97 = .ok (.ireturn, 1) := by decide +kernel
theorem dX9_drawnOf_98 : decode cX9_drawnOf 98 = .ok (.iinc 4 1, 3) := by decide +kernel
theorem dX9_drawnOf_101 : decode cX9_drawnOf 101 = .ok (.goto (-87), 3) := by decide +kernel
theorem dX9_hears_0 : decode cX9_hears 0 = .ok (.aload_n 0, 1) := by decide +kernel
theorem dX9_hears_1 : decode cX9_hears 1 = .ok (.getfield 65, 3) := by decide +kernel
theorem dX9_hears_4 : decode cX9_hears 4 = .ok (.bipush 8, 2) := by decide +kernel
theorem dX9_hears_6 : decode cX9_hears 6 = .ok (.iload_n 1, 1) := by decide +kernel
theorem dX9_hears_7 : decode cX9_hears 7 = .ok (.imul, 1) := by decide +kernel
theorem dX9_hears_8 : decode cX9_hears 8 = .ok (.iload_n 2, 1) := by decide +kernel
theorem dX9_hears_9 : decode cX9_hears 9 = .ok (.iadd, 1) := by decide +kernel
theorem dX9_hears_10 : decode cX9_hears 10 = .ok (.iaload, 1) := by decide +kernel
theorem dX9_hears_11 : decode cX9_hears 11 = .ok (.iconst (-1), 1) := by decide +kernel
theorem dX9_hears_12 : decode cX9_hears 12 = .ok (.if_icmp .ne 15, 3) := by decide +kernel
theorem dX9_hears_15 : decode cX9_hears 15 = .ok (.aload_n 0, 1) := by decide +kernel
theorem dX9_hears_16 : decode cX9_hears 16 = .ok (.getfield 65, 3) := by decide +kernel
theorem dX9_hears_19 : decode cX9_hears 19 = .ok (.bipush 8, 2) := by decide +kernel
theorem dX9_hears_21 : decode cX9_hears 21 = .ok (.iload_n 1, 1) := by decide +kernel
theorem dX9_hears_22 : decode cX9_hears 22 = .ok (.imul, 1) := by decide +kernel
theorem dX9_hears_23 : decode cX9_hears 23 = .ok (.iload_n 2, 1) := by decide +kernel
theorem dX9_hears_24 : decode cX9_hears 24 = .ok (.iadd, 1) := by decide +kernel
theorem dX9_hears_25 : decode cX9_hears 25 = .ok (.iload_n 3, 1) := by decide +kernel
theorem dX9_hears_26 : decode cX9_hears 26 = .ok (.iastore, 1) := by decide +kernel
theorem dX9_hears_27 : decode cX9_hears 27 = .ok (.return_, 1) := by decide +kernel
theorem dX9_hasHeard_0 : decode cX9_hasHeard 0 = .ok (.aload_n 0, 1) := by decide +kernel
theorem dX9_hasHeard_1 : decode cX9_hasHeard 1 = .ok (.getfield 65, 3) := by decide +kernel
theorem dX9_hasHeard_4 : decode cX9_hasHeard 4 = .ok (.bipush 8, 2) := by decide +kernel
theorem dX9_hasHeard_6 : decode cX9_hasHeard 6 = .ok (.iload_n 1, 1) := by decide +kernel
theorem dX9_hasHeard_7 : decode cX9_hasHeard 7 = .ok (.imul, 1) := by decide +kernel
theorem dX9_hasHeard_8 : decode cX9_hasHeard 8 = .ok (.iload_n 2, 1) := by decide +kernel
theorem dX9_hasHeard_9 : decode cX9_hasHeard 9 = .ok (.iadd, 1) := by decide +kernel
theorem dX9_hasHeard_10 : decode cX9_hasHeard 10 = .ok (.iaload, 1) := by decide +kernel
theorem dX9_hasHeard_11 : decode cX9_hasHeard 11 = .ok (.iconst (-1), 1) := by decide +kernel
theorem dX9_hasHeard_12 : decode cX9_hasHeard 12 = .ok (.if_icmp .eq 7, 3) := by decide +kernel
theorem dX9_hasHeard_15 : decode cX9_hasHeard 15 = .ok (.iconst 1, 1) := by decide +kernel
theorem dX9_hasHeard_16 : decode cX9_hasHeard 16 = .ok (.goto 4, 3) := by decide +kernel
theorem dX9_hasHeard_19 : decode cX9_hasHeard 19 = .ok (.iconst 0, 1) := by decide +kernel
theorem dX9_hasHeard_20 : decode cX9_hasHeard 20 = .ok (.ireturn, 1) := by decide +kernel
theorem dX9_comes_0 : decode cX9_comes 0 = .ok (.aload_n 0, 1) := by decide +kernel
theorem dX9_comes_1 : decode cX9_comes 1 = .ok (.getfield 50, 3) := by decide +kernel
theorem dX9_comes_4 : decode cX9_comes 4 = .ok (.iload_n 1, 1) := by decide +kernel
theorem dX9_comes_5 : decode cX9_comes 5 = .ok (.iload_n 2, 1) := by decide +kernel
theorem dX9_comes_6 : decode cX9_comes 6 = .ok (.iastore, 1) := by decide +kernel
theorem dX9_comes_7 : decode cX9_comes 7 = .ok (.aload_n 0, 1) := by decide +kernel
theorem dX9_comes_8 : decode cX9_comes 8 = .ok (.getfield 56, 3) := by decide +kernel
theorem dX9_comes_11 : decode cX9_comes 11 = .ok (.iload_n 1, 1) := by decide +kernel
theorem dX9_comes_12 : decode cX9_comes 12 = .ok (.aload_n 0, 1) := by decide +kernel
theorem dX9_comes_13 : decode cX9_comes 13 = .ok (.iload_n 1, 1) := by decide +kernel
theorem dX9_comes_14 : decode cX9_comes 14 = .ok (.invokevirtual 337, 3) := by decide +kernel
theorem dX9_comes_17 : decode cX9_comes 17 = .ok (.iastore, 1) := by decide +kernel
theorem dX9_comes_18 : decode cX9_comes 18 = .ok (.aload_n 0, 1) := by decide +kernel
theorem dX9_comes_19 : decode cX9_comes 19 = .ok (.aload_n 0, 1) := by decide +kernel
theorem dX9_comes_20 : decode cX9_comes 20 = .ok (.iload_n 1, 1) := by decide +kernel
theorem dX9_comes_21 : decode cX9_comes 21 = .ok (.invokevirtual 279, 3) := by decide +kernel
theorem dX9_comes_24 : decode cX9_comes 24 = .ok (.aload_n 0, 1) := by decide +kernel
theorem dX9_comes_25 : decode cX9_comes 25 = .ok (.iload_n 1, 1) := by decide +kernel
theorem dX9_comes_26 : decode cX9_comes 26 = .ok (.invokevirtual 340, 3) := by decide +kernel
theorem dX9_comes_29 : decode cX9_comes 29 = .ok (.iload_n 2, 1) := by decide +kernel
theorem dX9_comes_30 : decode cX9_comes 30 = .ok (.invokevirtual 343, 3) := by decide +kernel
theorem dX9_comes_33 : decode cX9_comes 33 = .ok (.return_, 1) := by decide +kernel
theorem dX9_isAnswered_0 : decode cX9_isAnswered 0 = .ok (.aload_n 0, 1) := by decide +kernel
theorem dX9_isAnswered_1 : decode cX9_isAnswered 1 = .ok (.getfield 53, 3) := by decide +kernel
theorem dX9_isAnswered_4 : decode cX9_isAnswered 4 = .ok (.iload_n 1, 1) := by decide +kernel
theorem dX9_isAnswered_5 : decode cX9_isAnswered 5 = .ok (.iload_n 2, 1) := by decide +kernel
theorem dX9_isAnswered_6 : decode cX9_isAnswered 6 = .ok (.iastore, 1) := by decide +kernel
theorem dX9_isAnswered_7 : decode cX9_isAnswered 7 = .ok (.aload_n 0, 1) := by decide +kernel
theorem dX9_isAnswered_8 : decode cX9_isAnswered 8 = .ok (.getfield 56, 3) := by decide +kernel
theorem dX9_isAnswered_11 : decode cX9_isAnswered 11 = .ok (.iload_n 1, 1) := by decide +kernel
theorem dX9_isAnswered_12 : decode cX9_isAnswered 12 = .ok (.iconst 0, 1) := by decide +kernel
theorem dX9_isAnswered_13 : decode cX9_isAnswered 13 = .ok (.iastore, 1) := by decide +kernel
theorem dX9_isAnswered_14 : decode cX9_isAnswered 14 = .ok (.aload_n 0, 1) := by decide +kernel
theorem dX9_isAnswered_15 : decode cX9_isAnswered 15 = .ok (.getfield 74, 3) := by decide +kernel
theorem dX9_isAnswered_18 : decode cX9_isAnswered 18 = .ok (.aload_n 0, 1) := by decide +kernel
theorem dX9_isAnswered_19 : decode cX9_isAnswered 19 = .ok (.getfield 347, 3) := by decide +kernel
theorem dX9_isAnswered_22 : decode cX9_isAnswered 22 = .ok (.iload_n 1, 1) := by decide +kernel
theorem dX9_isAnswered_23 : decode cX9_isAnswered 23 = .ok (.iastore, 1) := by decide +kernel
theorem dX9_isAnswered_24 : decode cX9_isAnswered 24 = .ok (.aload_n 0, 1) := by decide +kernel
theorem dX9_isAnswered_25 : decode cX9_isAnswered 25 = .ok (.dup, 1) := by decide +kernel
theorem dX9_isAnswered_26 : decode cX9_isAnswered 26 = .ok (.getfield 347, 3) := by decide +kernel
theorem dX9_isAnswered_29 : decode cX9_isAnswered 29 = .ok (.iconst 1, 1) := by decide +kernel
theorem dX9_isAnswered_30 : decode cX9_isAnswered 30 = .ok (.iadd, 1) := by decide +kernel
theorem dX9_isAnswered_31 : decode cX9_isAnswered 31 = .ok (.putfield 347, 3) := by decide +kernel
theorem dX9_isAnswered_34 : decode cX9_isAnswered 34 = .ok (.return_, 1) := by decide +kernel
theorem dX9_morning_0 : decode cX9_morning 0 = .ok (.aload_n 0, 1) := by decide +kernel
theorem dX9_morning_1 : decode cX9_morning 1 = .ok (.getfield 310, 3) := by decide +kernel
theorem dX9_morning_4 : decode cX9_morning 4 = .ok (.iconst (-1), 1) := by decide +kernel
theorem dX9_morning_5 : decode cX9_morning 5 = .ok (.if_icmp .eq 45, 3) := by decide +kernel
theorem dX9_morning_8 : decode cX9_morning 8 = .ok (.iload_n 1, 1) := by decide +kernel
theorem dX9_morning_9 : decode cX9_morning 9 = .ok (.aload_n 0, 1) := by decide +kernel
theorem dX9_morning_10 : decode cX9_morning 10 = .ok (.getfield 350, 3) := by decide +kernel
theorem dX9_morning_13 : decode cX9_morning 13 = .ok (.if_icmp .ne 37, 3) := by decide +kernel
theorem dX9_morning_16 : decode cX9_morning 16 = .ok (.iconst 0, 1) := by decide +kernel
theorem dX9_morning_17 : decode cX9_morning 17 = .ok (.istore_n 2, 1) := by decide +kernel
theorem dX9_morning_18 : decode cX9_morning 18 = .ok (.iload_n 2, 1) := by decide +kernel
theorem dX9_morning_19 : decode cX9_morning 19 = .ok (.bipush 49, 2) := by decide +kernel
theorem dX9_morning_21 : decode cX9_morning 21 = .ok (.if_icmp .ge 29, 3) := by decide +kernel
theorem dX9_morning_24 : decode cX9_morning 24 = .ok (.aload_n 0, 1) := by decide +kernel
theorem dX9_morning_25 : decode cX9_morning 25 = .ok (.iload_n 2, 1) := by decide +kernel
theorem dX9_morning_26 : decode cX9_morning 26 = .ok (.aload_n 0, 1) := by decide +kernel
theorem dX9_morning_27 : decode cX9_morning 27 = .ok (.getfield 310, 3) := by decide +kernel
theorem dX9_morning_30 : decode cX9_morning 30 = .ok (.iload_n 1, 1) := by decide +kernel
theorem dX9_morning_31 : decode cX9_morning 31 = .ok (.invokevirtual 316, 3) := by decide +kernel
theorem dX9_morning_34 : decode cX9_morning 34 = .ok (.ifCond .eq 10, 3) := by decide +kernel
theorem dX9_morning_37 : decode cX9_morning 37 = .ok (.aload_n 0, 1) := by decide +kernel
theorem dX9_morning_38 : decode cX9_morning 38 = .ok (.getfield 62, 3) := by decide +kernel
theorem dX9_morning_41 : decode cX9_morning 41 = .ok (.iload_n 2, 1) := by decide +kernel
theorem dX9_morning_42 : decode cX9_morning 42 = .ok (.iconst 1, 1) := by decide +kernel
theorem dX9_morning_43 : decode cX9_morning 43 = .ok (.bastore, 1) := by decide +kernel
theorem dX9_morning_44 : decode cX9_morning 44 = .ok (.iinc 2 1, 3) := by decide +kernel
theorem dX9_morning_47 : decode cX9_morning 47 = .ok (.goto (-29), 3) := by decide +kernel
theorem dX9_morning_50 : decode cX9_morning 50 = .ok (.iconst 0, 1) := by decide +kernel
theorem dX9_morning_51 : decode cX9_morning 51 = .ok (.istore_n 2, 1) := by decide +kernel
theorem dX9_morning_52 : decode cX9_morning 52 = .ok (.iload_n 2, 1) := by decide +kernel
theorem dX9_morning_53 : decode cX9_morning 53 = .ok (.aload_n 0, 1) := by decide +kernel
theorem dX9_morning_54 : decode cX9_morning 54 = .ok (.getfield 34, 3) := by decide +kernel
theorem dX9_morning_57 : decode cX9_morning 57 = .ok (.iconst 3, 1) := by decide +kernel
theorem dX9_morning_58 : decode cX9_morning 58 = .ok (.iaload, 1) := by decide +kernel
theorem dX9_morning_59 : decode cX9_morning 59 = .ok (.if_icmp .ge 41, 3) := by decide +kernel
theorem dX9_morning_62 : decode cX9_morning 62 = .ok (.aload_n 0, 1) := by decide +kernel
theorem dX9_morning_63 : decode cX9_morning 63 = .ok (.getfield 40, 3) := by decide +kernel
theorem dX9_morning_66 : decode cX9_morning 66 = .ok (.bipush 8, 2) := by decide +kernel
theorem dX9_morning_68 : decode cX9_morning 68 = .ok (.iload_n 2, 1) := by decide +kernel
theorem dX9_morning_69 : decode cX9_morning 69 = .ok (.imul, 1) := by decide +kernel
theorem dX9_morning_70 : decode cX9_morning 70 = .ok (.iconst 2, 1) := by decide +kernel
theorem dX9_morning_71 : decode cX9_morning 71 = .ok (.iadd, 1) := by decide +kernel
theorem dX9_morning_72 : decode cX9_morning 72 = .ok (.iaload, 1) := by decide +kernel
theorem dX9_morning_73 : decode cX9_morning 73 = .ok (.iload_n 1, 1) := by decide +kernel
theorem dX9_morning_74 : decode cX9_morning 74 = .ok (.if_icmp .ne 20, 3) := by decide +kernel
theorem dX9_morning_77 : decode cX9_morning 77 = .ok (.aload_n 0, 1) := by decide +kernel
theorem dX9_morning_78 : decode cX9_morning 78 = .ok (.getfield 304, 3) := by decide +kernel
theorem dX9_morning_81 : decode cX9_morning 81 = .ok (.iload_n 2, 1) := by decide +kernel
theorem dX9_morning_82 : decode cX9_morning 82 = .ok (.ishr, 1) := by decide +kernel
theorem dX9_morning_83 : decode cX9_morning 83 = .ok (.iconst 1, 1) := by decide +kernel
theorem dX9_morning_84 : decode cX9_morning 84 = .ok (.iand, 1) := by decide +kernel
theorem dX9_morning_85 : decode cX9_morning 85 = .ok (.ifCond .ne 9, 3) := by decide +kernel
theorem dX9_morning_88 : decode cX9_morning 88 = .ok (.aload_n 0, 1) := by decide +kernel
theorem dX9_morning_89 : decode cX9_morning 89 = .ok (.iload_n 2, 1) := by decide +kernel
theorem dX9_morning_90 : decode cX9_morning 90 = .ok (.iload_n 1, 1) := by decide +kernel
theorem dX9_morning_91 : decode cX9_morning 91 = .ok (.invokevirtual 353, 3) := by decide +kernel
theorem dX9_morning_94 : decode cX9_morning 94 = .ok (.iinc 2 1, 3) := by decide +kernel
theorem dX9_morning_97 : decode cX9_morning 97 = .ok (.goto (-45), 3) := by decide +kernel
theorem dX9_morning_100 : decode cX9_morning 100 = .ok (.aload_n 0, 1) := by decide +kernel
theorem dX9_morning_101 : decode cX9_morning 101 = .ok (.getfield 313, 3) := by decide +kernel
theorem dX9_morning_104 : decode cX9_morning 104 = .ok (.ifCond .eq 20, 3) := by decide +kernel
theorem dX9_morning_107 : decode cX9_morning 107 = .ok (.aload_n 0, 1) := by decide +kernel
theorem dX9_morning_108 : decode cX9_morning 108 = .ok (.getfield 47, 3) := by decide +kernel
theorem dX9_morning_111 : decode cX9_morning 111 = .ok (.iconst 2, 1) := by decide +kernel
theorem dX9_morning_112 : decode cX9_morning 112 = .ok (.iaload, 1) := by decide +kernel
theorem dX9_morning_113 : decode cX9_morning 113 = .ok (.iload_n 1, 1) := by decide +kernel
theorem dX9_morning_114 : decode cX9_morning 114 = .ok (.if_icmp .ne 10, 3) := by decide +kernel
theorem dX9_morning_117 : decode cX9_morning 117 = .ok (.aload_n 0, 1) := by decide +kernel
theorem dX9_morning_118 : decode cX9_morning 118 = .ok (.bipush 48, 2) := by decide +kernel
theorem dX9_morning_120 : decode cX9_morning 120 = .ok (.iload_n 1, 1) := by decide +kernel
theorem dX9_morning_121 : decode cX9_morning 121 = .ok (.invokevirtual 353, 3) := by decide +kernel
theorem dX9_morning_124 : decode cX9_morning 124 = .ok (.iconst 0, 1) := by decide +kernel
theorem dX9_morning_125 : decode cX9_morning 125 = .ok (.istore_n 2, 1) := by decide +kernel
theorem dX9_morning_126 : decode cX9_morning 126 = .ok (.iload_n 2, 1) := by decide +kernel
theorem dX9_morning_127 : decode cX9_morning 127 = .ok (.bipush 49, 2) := by decide +kernel
theorem dX9_morning_129 : decode cX9_morning 129 = .ok (.if_icmp .ge 101, 3) := by decide +kernel
theorem dX9_morning_132 : decode cX9_morning 132 = .ok (.aload_n 0, 1) := by decide +kernel
theorem dX9_morning_133 : decode cX9_morning 133 = .ok (.getfield 53, 3) := by decide +kernel
theorem dX9_morning_136 : decode cX9_morning 136 = .ok (.iload_n 2, 1) := by decide +kernel
theorem dX9_morning_137 : decode cX9_morning 137 = .ok (.iaload, 1) := by decide +kernel
theorem dX9_morning_138 : decode cX9_morning 138 = .ok (.iconst (-1), 1) := by decide +kernel
theorem dX9_morning_139 : decode cX9_morning 139 = .ok (.if_icmp .eq 85, 3) := by decide +kernel
theorem dX9_morning_142 : decode cX9_morning 142 = .ok (.aload_n 0, 1) := by decide +kernel
theorem dX9_morning_143 : decode cX9_morning 143 = .ok (.getfield 53, 3) := by decide +kernel
theorem dX9_morning_146 : decode cX9_morning 146 = .ok (.iload_n 2, 1) := by decide +kernel
theorem dX9_morning_147 : decode cX9_morning 147 = .ok (.iaload, 1) := by decide +kernel
theorem dX9_morning_148 : decode cX9_morning 148 = .ok (.aload_n 0, 1) := by decide +kernel
theorem dX9_morning_149 : decode cX9_morning 149 = .ok (.getfield 34, 3) := by decide +kernel
theorem dX9_morning_152 : decode cX9_morning 152 = .ok (.iconst 1, 1) := by decide +kernel
theorem dX9_morning_153 : decode cX9_morning 153 = .ok (.iaload, 1) := by decide +kernel
theorem dX9_morning_154 : decode cX9_morning 154 = .ok (.iadd, 1) := by decide +kernel
theorem dX9_morning_155 : decode cX9_morning 155 = .ok (.iload_n 1, 1) := by decide +kernel
theorem dX9_morning_156 : decode cX9_morning 156 = .ok (.if_icmp .ne 68, 3) := by decide +kernel
theorem dX9_morning_159 : decode cX9_morning 159 = .ok (.iload_n 2, 1) := by decide +kernel
theorem dX9_morning_160 : decode cX9_morning 160 = .ok (.aload_n 0, 1) := by decide +kernel
theorem dX9_morning_161 : decode cX9_morning 161 = .ok (.getfield 307, 3) := by decide +kernel
theorem dX9_morning_164 : decode cX9_morning 164 = .ok (.if_icmp .ne 13, 3) := by decide +kernel
theorem dX9_morning_167 : decode cX9_morning 167 = .ok (.aload_n 0, 1) := by decide +kernel
theorem dX9_morning_168 : decode cX9_morning 168 = .ok (.getfield 356, 3) := by decide +kernel
theorem dX9_morning_171 : decode cX9_morning 171 = .ok (.ifCond .eq 6, 3) := by decide +kernel
theorem dX9_morning_174 : decode cX9_morning 174 = .ok (.goto 50, 3) := by decide +kernel
theorem dX9_morning_177 : decode cX9_morning 177 = .ok (.iload_n 2, 1) := by decide +kernel
theorem dX9_morning_178 : decode cX9_morning 178 = .ok (.bipush 24, 2) := by decide +kernel
theorem dX9_morning_180 : decode cX9_morning 180 = .ok (.if_icmp .ge 29, 3) := by decide +kernel
theorem dX9_morning_183 : decode cX9_morning 183 = .ok (.aload_n 0, 1) := by decide +kernel
theorem dX9_morning_184 : decode cX9_morning 184 = .ok (.getfield 40, 3) := by decide +kernel
theorem dX9_morning_187 : decode cX9_morning 187 = .ok (.bipush 8, 2) := by decide +kernel
theorem dX9_morning_189 : decode cX9_morning 189 = .ok (.iload_n 2, 1) := by decide +kernel
theorem dX9_morning_190 : decode cX9_morning 190 = .ok (.imul, 1) := by decide +kernel
theorem dX9_morning_191 : decode cX9_morning 191 = .ok (.iconst 4, 1) := by decide +kernel
theorem dX9_morning_192 : decode cX9_morning 192 = .ok (.iadd, 1) := by decide +kernel
theorem dX9_morning_193 : decode cX9_morning 193 = .ok (.iaload, 1) := by decide +kernel
theorem dX9_morning_194 : decode cX9_morning 194 = .ok (.ifCond .le 15, 3) := by decide +kernel
theorem dX9_morning_197 : decode cX9_morning 197 = .ok (.aload_n 0, 1) := by decide +kernel
theorem dX9_morning_198 : decode cX9_morning 198 = .ok (.bipush 24, 2) := by decide +kernel
theorem dX9_morning_200 : decode cX9_morning 200 = .ok (.iload_n 2, 1) := by decide +kernel
theorem dX9_morning_201 : decode cX9_morning 201 = .ok (.iadd, 1) := by decide +kernel
theorem dX9_morning_202 : decode cX9_morning 202 = .ok (.iload_n 1, 1) := by decide +kernel
theorem dX9_morning_203 : decode cX9_morning 203 = .ok (.invokevirtual 353, 3) := by decide +kernel
theorem dX9_morning_206 : decode cX9_morning 206 = .ok (.goto 18, 3) := by decide +kernel
theorem dX9_morning_209 : decode cX9_morning 209 = .ok (.aload_n 0, 1) := by decide +kernel
theorem dX9_morning_210 : decode cX9_morning 210 = .ok (.aload_n 0, 1) := by decide +kernel
theorem dX9_morning_211 : decode cX9_morning 211 = .ok (.iload_n 2, 1) := by decide +kernel
theorem dX9_morning_212 : decode cX9_morning 212 = .ok (.invokevirtual 340, 3) := by decide +kernel
theorem dX9_morning_215 : decode cX9_morning 215 = .ok (.aload_n 0, 1) := by decide +kernel
theorem dX9_morning_216 : decode cX9_morning 216 = .ok (.iload_n 2, 1) := by decide +kernel
theorem dX9_morning_217 : decode cX9_morning 217 = .ok (.invokevirtual 279, 3) := by decide +kernel
theorem dX9_morning_220 : decode cX9_morning 220 = .ok (.iload_n 1, 1) := by decide +kernel
theorem dX9_morning_221 : decode cX9_morning 221 = .ok (.invokevirtual 343, 3) := by decide +kernel
theorem dX9_morning_224 : decode cX9_morning 224 = .ok (.iinc 2 1, 3) := by decide +kernel
theorem dX9_morning_227 : decode cX9_morning 227 = .ok (.goto (-101), 3) := by decide +kernel
theorem dX9_morning_230 : decode cX9_morning 230 = .ok (.aload_n 0, 1) := by decide +kernel
theorem dX9_morning_231 : decode cX9_morning 231 = .ok (.getfield 307, 3) := by decide +kernel
theorem dX9_morning_234 : decode cX9_morning 234 = .ok (.iconst (-1), 1) := by decide +kernel
theorem dX9_morning_235 : decode cX9_morning 235 = .ok (.if_icmp .eq 66, 3) := by decide +kernel
theorem dX9_morning_238 : decode cX9_morning 238 = .ok (.iload_n 1, 1) := by decide +kernel
theorem dX9_morning_239 : decode cX9_morning 239 = .ok (.aload_n 0, 1) := by decide +kernel
theorem dX9_morning_240 : decode cX9_morning 240 = .ok (.getfield 359, 3) := by decide +kernel
theorem dX9_morning_243 : decode cX9_morning 243 = .ok (.if_icmp .ne 58, 3) := by decide +kernel
theorem dX9_morning_246 : decode cX9_morning 246 = .ok (.aload_n 0, 1) := by decide +kernel
theorem dX9_morning_247 : decode cX9_morning 247 = .ok (.aload_n 0, 1) := by decide +kernel
theorem dX9_morning_248 : decode cX9_morning 248 = .ok (.getfield 307, 3) := by decide +kernel
theorem dX9_morning_251 : decode cX9_morning 251 = .ok (.aload_n 0, 1) := by decide +kernel
theorem dX9_morning_252 : decode cX9_morning 252 = .ok (.aload_n 0, 1) := by decide +kernel
theorem dX9_morning_253 : decode cX9_morning 253 = .ok (.getfield 307, 3) := by decide +kernel
theorem dX9_morning_256 : decode cX9_morning 256 = .ok (.invokevirtual 279, 3) := by decide +kernel
theorem dX9_morning_259 : decode cX9_morning 259 = .ok (.iload_n 1, 1) := by decide +kernel
theorem dX9_morning_260 : decode cX9_morning 260 = .ok (.invokevirtual 316, 3) := by decide +kernel
theorem dX9_morning_263 : decode cX9_morning 263 = .ok (.ifCond .eq 38, 3) := by decide +kernel
theorem dX9_morning_266 : decode cX9_morning 266 = .ok (.aload_n 0, 1) := by decide +kernel
theorem dX9_morning_267 : decode cX9_morning 267 = .ok (.aload_n 0, 1) := by decide +kernel
theorem dX9_morning_268 : decode cX9_morning 268 = .ok (.getfield 307, 3) := by decide +kernel
theorem dX9_morning_271 : decode cX9_morning 271 = .ok (.iload_n 1, 1) := by decide +kernel
theorem dX9_morning_272 : decode cX9_morning 272 = .ok (.invokevirtual 362, 3) := by decide +kernel
theorem dX9_morning_275 : decode cX9_morning 275 = .ok (.aload_n 0, 1) := by decide +kernel
theorem dX9_morning_276 : decode cX9_morning 276 = .ok (.iconst 1, 1) := by decide +kernel
theorem dX9_morning_277 : decode cX9_morning 277 = .ok (.putfield 356, 3) := by decide +kernel
theorem dX9_morning_280 : decode cX9_morning 280 = .ok (.aload_n 0, 1) := by decide +kernel
theorem dX9_morning_281 : decode cX9_morning 281 = .ok (.aload_n 0, 1) := by decide +kernel
theorem dX9_morning_282 : decode cX9_morning 282 = .ok (.aload_n 0, 1) := by decide +kernel
theorem dX9_morning_283 : decode cX9_morning 283 = .ok (.getfield 307, 3) := by decide +kernel
theorem dX9_morning_286 : decode cX9_morning 286 = .ok (.invokevirtual 340, 3) := by decide +kernel
theorem dX9_morning_289 : decode cX9_morning 289 = .ok (.aload_n 0, 1) := by decide +kernel
theorem dX9_morning_290 : decode cX9_morning 290 = .ok (.aload_n 0, 1) := by decide +kernel
theorem dX9_morning_291 : decode cX9_morning 291 = .ok (.getfield 307, 3) := by decide +kernel
theorem dX9_morning_294 : decode cX9_morning 294 = .ok (.invokevirtual 279, 3) := by decide +kernel
theorem dX9_morning_297 : decode cX9_morning 297 = .ok (.iload_n 1, 1) := by decide +kernel
theorem dX9_morning_298 : decode cX9_morning 298 = .ok (.invokevirtual 343, 3) := by decide +kernel
theorem dX9_morning_301 : decode cX9_morning 301 = .ok (.return_, 1) := by decide +kernel
theorem dX9_hoursOn_0 : decode cX9_hoursOn 0 = .ok (.aload_n 0, 1) := by decide +kernel
theorem dX9_hoursOn_1 : decode cX9_hoursOn 1 = .ok (.iload_n 1, 1) := by decide +kernel
theorem dX9_hoursOn_2 : decode cX9_hoursOn 2 = .ok (.invokevirtual 282, 3) := by decide +kernel
theorem dX9_hoursOn_5 : decode cX9_hoursOn 5 = .ok (.iconst 2, 1) := by decide +kernel
theorem dX9_hoursOn_6 : decode cX9_hoursOn 6 = .ok (.if_icmp .ne 16, 3) := by decide +kernel
theorem dX9_hoursOn_9 : decode cX9_hoursOn 9 = .ok (.iload_n 2, 1) := by decide +kernel
theorem dX9_hoursOn_10 : decode cX9_hoursOn 10 = .ok (.bipush 7, 2) := by decide +kernel
theorem dX9_hoursOn_12 : decode cX9_hoursOn 12 = .ok (.irem, 1) := by decide +kernel
theorem dX9_hoursOn_13 : decode cX9_hoursOn 13 = .ok (.bipush 6, 2) := by decide +kernel
theorem dX9_hoursOn_15 : decode cX9_hoursOn 15 = .ok (.if_icmp .ne 7, 3) := by decide +kernel
theorem dX9_hoursOn_18 : decode cX9_hoursOn 18 = .ok (.iconst 0, 1) := by decide +kernel
theorem dX9_hoursOn_19 : decode cX9_hoursOn 19 = .ok (.goto 11, 3) := by decide +kernel
theorem dX9_hoursOn_22 : decode cX9_hoursOn 22 = .ok (.aload_n 0, 1) := by decide +kernel
theorem dX9_hoursOn_23 : decode cX9_hoursOn 23 = .ok (.getfield 37, 3) := by decide +kernel
theorem dX9_hoursOn_26 : decode cX9_hoursOn 26 = .ok (.iconst 3, 1) := by decide +kernel
theorem dX9_hoursOn_27 : decode cX9_hoursOn 27 = .ok (.iload_n 1, 1) := by decide +kernel
theorem dX9_hoursOn_28 : decode cX9_hoursOn 28 = .ok (.imul, 1) := by decide +kernel
theorem dX9_hoursOn_29 : decode cX9_hoursOn 29 = .ok (.iaload, 1) := by decide +kernel
theorem dX9_hoursOn_30 : decode cX9_hoursOn 30 = .ok (.istore_n 3, 1) := by decide +kernel
theorem dX9_hoursOn_31 : decode cX9_hoursOn 31 = .ok (.aload_n 0, 1) := by decide +kernel
theorem dX9_hoursOn_32 : decode cX9_hoursOn 32 = .ok (.getfield 307, 3) := by decide +kernel
theorem dX9_hoursOn_35 : decode cX9_hoursOn 35 = .ok (.iconst (-1), 1) := by decide +kernel
theorem dX9_hoursOn_36 : decode cX9_hoursOn 36 = .ok (.if_icmp .eq 30, 3) := by decide +kernel
theorem dX9_hoursOn_39 : decode cX9_hoursOn 39 = .ok (.iload_n 2, 1) := by decide +kernel
theorem dX9_hoursOn_40 : decode cX9_hoursOn 40 = .ok (.aload_n 0, 1) := by decide +kernel
theorem dX9_hoursOn_41 : decode cX9_hoursOn 41 = .ok (.getfield 359, 3) := by decide +kernel
theorem dX9_hoursOn_44 : decode cX9_hoursOn 44 = .ok (.if_icmp .ne 22, 3) := by decide +kernel
theorem dX9_hoursOn_47 : decode cX9_hoursOn 47 = .ok (.aload_n 0, 1) := by decide +kernel
theorem dX9_hoursOn_48 : decode cX9_hoursOn 48 = .ok (.aload_n 0, 1) := by decide +kernel
theorem dX9_hoursOn_49 : decode cX9_hoursOn 49 = .ok (.getfield 307, 3) := by decide +kernel
theorem dX9_hoursOn_52 : decode cX9_hoursOn 52 = .ok (.invokevirtual 340, 3) := by decide +kernel
theorem dX9_hoursOn_55 : decode cX9_hoursOn 55 = .ok (.iload_n 1, 1) := by decide +kernel
theorem dX9_hoursOn_56 : decode cX9_hoursOn 56 = .ok (.if_icmp .ne 10, 3) := by decide +kernel
theorem dX9_hoursOn_59 : decode cX9_hoursOn 59 = .ok (.iload_n 3, 1) := by decide +kernel
theorem dX9_hoursOn_60 : decode cX9_hoursOn 60 = .ok (.aload_n 0, 1) := by decide +kernel
theorem dX9_hoursOn_61 : decode cX9_hoursOn 61 = .ok (.getfield 365, 3) := by decide +kernel
theorem dX9_hoursOn_64 : decode cX9_hoursOn 64 = .ok (.isub, 1) := by decide +kernel
theorem dX9_hoursOn_65 : decode cX9_hoursOn 65 = .ok (.istore_n 3, 1) := by decide +kernel
theorem dX9_hoursOn_66 : decode cX9_hoursOn 66 = .ok (.iload_n 3, 1) := by decide +kernel
theorem dX9_hoursOn_67 : decode cX9_hoursOn 67 = .ok (.ifCond .ge 7, 3) := by decide +kernel
theorem dX9_hoursOn_70 : decode cX9_hoursOn 70 = .ok (.iconst 0, 1) := by decide +kernel
theorem dX9_hoursOn_71 : decode cX9_hoursOn 71 = .ok (.goto 4, 3) := by decide +kernel
theorem dX9_hoursOn_74 : decode cX9_hoursOn 74 = .ok (.iload_n 3, 1) := by decide +kernel
theorem dX9_hoursOn_75 : decode cX9_hoursOn 75 = .ok (.ireturn, 1) := by decide +kernel
theorem dX9_works_0 : decode cX9_works 0 = .ok (.iload_n 2, 1) := by decide +kernel
theorem dX9_works_1 : decode cX9_works 1 = .ok (.istore 4, 2) := by decide +kernel
theorem dX9_works_3 : decode cX9_works 3 = .ok (.aload_n 0, 1) := by decide +kernel
theorem dX9_works_4 : decode cX9_works 4 = .ok (.iconst (-1), 1) := by decide +kernel
theorem dX9_works_5 : decode cX9_works 5 = .ok (.putfield 368, 3) := by decide +kernel
theorem dX9_works_8 : decode cX9_works 8 = .ok (.iload 4, 2) := by decide +kernel
theorem dX9_works_10 : decode cX9_works 10 = .ok (.ifCond .le 147, 3) := by decide +kernel
theorem dX9_works_13 : decode cX9_works 13 = .ok (.aload_n 0, 1) := by decide +kernel
theorem dX9_works_14 : decode cX9_works 14 = .ok (.getfield 368, 3) := by decide +kernel
theorem dX9_works_17 : decode cX9_works 17 = .ok (.iconst (-1), 1) := by decide +kernel
theorem dX9_works_18 : decode cX9_works 18 = .ok (.if_icmp .ne 139, 3) := by decide +kernel
theorem dX9_works_21 : decode cX9_works 21 = .ok (.aload_n 0, 1) := by decide +kernel
theorem dX9_works_22 : decode cX9_works 22 = .ok (.iload_n 1, 1) := by decide +kernel
theorem dX9_works_23 : decode cX9_works 23 = .ok (.iload_n 3, 1) := by decide +kernel
theorem dX9_works_24 : decode cX9_works 24 = .ok (.invokevirtual 331, 3) := by decide +kernel
theorem dX9_works_27 : decode cX9_works 27 = .ok (.ifCond .le 130, 3) := by decide +kernel
theorem dX9_works_30 : decode cX9_works 30 = .ok (.aload_n 0, 1) := by decide +kernel
theorem dX9_works_31 : decode cX9_works 31 = .ok (.getfield 298, 3) := by decide +kernel
theorem dX9_works_34 : decode cX9_works 34 = .ok (.iconst 3, 1) := by decide +kernel
theorem dX9_works_35 : decode cX9_works 35 = .ok (.if_icmp .ne 12, 3) := by decide +kernel
theorem dX9_works_38 : decode cX9_works 38 = .ok (.aload_n 0, 1) := by decide +kernel
theorem dX9_works_39 : decode cX9_works 39 = .ok (.iload_n 1, 1) := by decide +kernel
theorem dX9_works_40 : decode cX9_works 40 = .ok (.iload_n 3, 1) := by decide +kernel
theorem dX9_works_41 : decode cX9_works 41 = .ok (.invokevirtual 371, 3) := by decide +kernel
theorem dX9_works_44 : decode cX9_works 44 = .ok (.goto 9, 3) := by decide +kernel
theorem dX9_works_47 : decode cX9_works 47 = .ok (.aload_n 0, 1) := by decide +kernel
theorem dX9_works_48 : decode cX9_works 48 = .ok (.iload_n 1, 1) := by decide +kernel
theorem dX9_works_49 : decode cX9_works 49 = .ok (.iload_n 3, 1) := by decide +kernel
theorem dX9_works_50 : decode cX9_works 50 = .ok (.invokevirtual 374, 3) := by decide +kernel
theorem dX9_works_53 : decode cX9_works 53 = .ok (.istore 5, 2) := by decide +kernel
theorem dX9_works_55 : decode cX9_works 55 = .ok (.aload_n 0, 1) := by decide +kernel
theorem dX9_works_56 : decode cX9_works 56 = .ok (.iload 5, 2) := by decide +kernel
theorem dX9_works_58 : decode cX9_works 58 = .ok (.invokevirtual 377, 3) := by decide +kernel
theorem dX9_works_61 : decode cX9_works 61 = .ok (.iconst (-1), 1) := by decide +kernel
theorem dX9_works_62 : decode cX9_works 62 = .ok (.if_icmp .eq 30, 3) := by decide +kernel
theorem dX9_works_65 : decode cX9_works 65 = .ok (.aload_n 0, 1) := by decide +kernel
theorem dX9_works_66 : decode cX9_works 66 = .ok (.iload_n 1, 1) := by decide +kernel
theorem dX9_works_67 : decode cX9_works 67 = .ok (.aload_n 0, 1) := by decide +kernel
theorem dX9_works_68 : decode cX9_works 68 = .ok (.iload 5, 2) := by decide +kernel
theorem dX9_works_70 : decode cX9_works 70 = .ok (.invokevirtual 377, 3) := by decide +kernel
theorem dX9_works_73 : decode cX9_works 73 = .ok (.invokevirtual 380, 3) := by decide +kernel
theorem dX9_works_76 : decode cX9_works 76 = .ok (.ifCond .ne 16, 3) := by decide +kernel
theorem dX9_works_79 : decode cX9_works 79 = .ok (.aload_n 0, 1) := by decide +kernel
theorem dX9_works_80 : decode cX9_works 80 = .ok (.aload_n 0, 1) := by decide +kernel
theorem dX9_works_81 : decode cX9_works 81 = .ok (.iload 5, 2) := by decide +kernel
theorem dX9_works_83 : decode cX9_works 83 = .ok (.invokevirtual 377, 3) := by decide +kernel
theorem dX9_works_86 : decode cX9_works 86 = .ok (.putfield 368, 3) := by decide +kernel
theorem dX9_works_89 : decode cX9_works 89 = .ok (.goto (-81), 3) := by decide +kernel
theorem dX9_works_92 : decode cX9_works 92 = .ok (.iload 4, 2) := by decide +kernel
theorem dX9_works_94 : decode cX9_works 94 = .ok (.aload_n 0, 1) := by decide +kernel
theorem dX9_works_95 : decode cX9_works 95 = .ok (.getfield 56, 3) := by decide +kernel
theorem dX9_works_98 : decode cX9_works 98 = .ok (.iload 5, 2) := by decide +kernel
theorem dX9_works_100 : decode cX9_works 100 = .ok (.iaload, 1) := by decide +kernel
theorem dX9_works_101 : decode cX9_works 101 = .ok (.if_icmp .ge 8, 3) := by decide +kernel
theorem dX9_works_104 : decode cX9_works 104 = .ok (.iload 4, 2) := by decide +kernel
theorem dX9_works_106 : decode cX9_works 106 = .ok (.goto 10, 3) := by decide +kernel
theorem dX9_works_109 : decode cX9_works 109 = .ok (.aload_n 0, 1) := by decide +kernel
theorem dX9_works_110 : decode cX9_works 110 = .ok (.getfield 56, 3) := by decide +kernel
theorem dX9_works_113 : decode cX9_works 113 = .ok (.iload 5, 2) := by decide +kernel
theorem dX9_works_115 : decode cX9_works 115 = .ok (.iaload, 1) := by decide +kernel
theorem dX9_works_116 : decode cX9_works 116 = .ok (.istore 6, 2) := by decide +kernel
theorem dX9_works_118 : decode cX9_works 118 = .ok (.iload 4, 2) := by decide +kernel
theorem dX9_works_120 : decode cX9_works 120 = .ok (.iload 6, 2) := by decide +kernel
theorem dX9_works_122 : decode cX9_works 122 = .ok (.isub, 1) := by decide +kernel
theorem dX9_works_123 : decode cX9_works 123 = .ok (.istore 4, 2) := by decide +kernel
theorem dX9_works_125 : decode cX9_works 125 = .ok (.aload_n 0, 1) := by decide +kernel
theorem dX9_works_126 : decode cX9_works 126 = .ok (.getfield 56, 3) := by decide +kernel
theorem dX9_works_129 : decode cX9_works 129 = .ok (.iload 5, 2) := by decide +kernel
theorem dX9_works_131 : decode cX9_works 131 = .ok (.dup2, 1) := by decide +kernel
theorem dX9_works_132 : decode cX9_works 132 = .ok (.iaload, 1) := by decide +kernel
theorem dX9_works_133 : decode cX9_works 133 = .ok (.iload 6, 2) := by decide +kernel
theorem dX9_works_135 : decode cX9_works 135 = .ok (.isub, 1) := by decide +kernel
theorem dX9_works_136 : decode cX9_works 136 = .ok (.iastore, 1) := by decide +kernel
theorem dX9_works_137 : decode cX9_works 137 = .ok (.aload_n 0, 1) := by decide +kernel
theorem dX9_works_138 : decode cX9_works 138 = .ok (.getfield 56, 3) := by decide +kernel
theorem dX9_works_141 : decode cX9_works 141 = .ok (.iload 5, 2) := by decide +kernel
theorem dX9_works_143 : decode cX9_works 143 = .ok (.iaload, 1) := by decide +kernel
theorem dX9_works_144 : decode cX9_works 144 = .ok (.ifCond .ne 10, 3) := by decide +kernel
theorem dX9_works_147 : decode cX9_works 147 = .ok (.aload_n 0, 1) := by decide +kernel
theorem dX9_works_148 : decode cX9_works 148 = .ok (.iload 5, 2) := by decide +kernel
theorem dX9_works_150 : decode cX9_works 150 = .ok (.iload_n 3, 1) := by decide +kernel
theorem dX9_works_151 : decode cX9_works 151 = .ok (.invokevirtual 362, 3) := by decide +kernel
theorem dX9_works_154 : decode cX9_works 154 = .ok (.goto (-146), 3) := by decide +kernel
theorem dX9_works_157 : decode cX9_works 157 = .ok (.iload 4, 2) := by decide +kernel
theorem dX9_works_159 : decode cX9_works 159 = .ok (.ireturn, 1) := by decide +kernel
theorem dX9_goes_0 : decode cX9_goes 0 = .ok (.iconst 0, 1) := by decide +kernel
theorem dX9_goes_1 : decode cX9_goes 1 = .ok (.istore_n 1, 1) := by decide +kernel
theorem dX9_goes_2 : decode cX9_goes 2 = .ok (.iload_n 1, 1) := by decide +kernel
theorem dX9_goes_3 : decode cX9_goes 3 = .ok (.bipush 49, 2) := by decide +kernel
theorem dX9_goes_5 : decode cX9_goes 5 = .ok (.if_icmp .ge 37, 3) := by decide +kernel
theorem dX9_goes_8 : decode cX9_goes 8 = .ok (.aload_n 0, 1) := by decide +kernel
theorem dX9_goes_9 : decode cX9_goes 9 = .ok (.getfield 50, 3) := by decide +kernel
theorem dX9_goes_12 : decode cX9_goes 12 = .ok (.iload_n 1, 1) := by decide +kernel
theorem dX9_goes_13 : decode cX9_goes 13 = .ok (.iconst (-1), 1) := by decide +kernel
theorem dX9_goes_14 : decode cX9_goes 14 = .ok (.iastore, 1) := by decide +kernel
theorem dX9_goes_15 : decode cX9_goes 15 = .ok (.aload_n 0, 1) := by decide +kernel
theorem dX9_goes_16 : decode cX9_goes 16 = .ok (.getfield 53, 3) := by decide +kernel
theorem dX9_goes_19 : decode cX9_goes 19 = .ok (.iload_n 1, 1) := by decide +kernel
theorem dX9_goes_20 : decode cX9_goes 20 = .ok (.iconst (-1), 1) := by decide +kernel
theorem dX9_goes_21 : decode cX9_goes 21 = .ok (.iastore, 1) := by decide +kernel
theorem dX9_goes_22 : decode cX9_goes 22 = .ok (.aload_n 0, 1) := by decide +kernel
theorem dX9_goes_23 : decode cX9_goes 23 = .ok (.getfield 56, 3) := by decide +kernel
theorem dX9_goes_26 : decode cX9_goes 26 = .ok (.iload_n 1, 1) := by decide +kernel
theorem dX9_goes_27 : decode cX9_goes 27 = .ok (.iconst 0, 1) := by decide +kernel
theorem dX9_goes_28 : decode cX9_goes 28 = .ok (.iastore, 1) := by decide +kernel
theorem dX9_goes_29 : decode cX9_goes 29 = .ok (.aload_n 0, 1) := by decide +kernel
theorem dX9_goes_30 : decode cX9_goes 30 = .ok (.getfield 62, 3) := by decide +kernel
