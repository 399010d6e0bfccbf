theorem dX0_init_0 : decode cX0_init 0 = .ok (.aload_n 0, 1) := by decide +kernel
theorem dX0_init_1 : decode cX0_init 1 = .ok (.invokespecial 3, 3) := by decide +kernel
theorem dX0_init_4 : decode cX0_init 4 = .ok (.aload_n 0, 1) := by decide +kernel
theorem dX0_init_5 : decode cX0_init 5 = .ok (.sipush 320, 3) := by decide +kernel
theorem dX0_init_8 : decode cX0_init 8 = .ok (.newarray .long, 2) := by decide +kernel
theorem dX0_init_10 : decode cX0_init 10 = .ok (.putfield 9, 3) := by decide +kernel
theorem dX0_init_13 : decode cX0_init 13 = .ok (.aload_n 0, 1) := by decide +kernel
theorem dX0_init_14 : decode cX0_init 14 = .ok (.sipush 320, 3) := by decide +kernel
theorem dX0_init_17 : decode cX0_init 17 = .ok (.newarray .int, 2) := by decide +kernel
theorem dX0_init_19 : decode cX0_init 19 = .ok (.putfield 15, 3) := by decide +kernel
theorem dX0_init_22 : decode cX0_init 22 = .ok (.aload_n 0, 1) := by decide +kernel
theorem dX0_init_23 : decode cX0_init 23 = .ok (.sipush 320, 3) := by decide +kernel
theorem dX0_init_26 : decode cX0_init 26 = .ok (.newarray .int, 2) := by decide +kernel
theorem dX0_init_28 : decode cX0_init 28 = .ok (.putfield 19, 3) := by decide +kernel
theorem dX0_init_31 : decode cX0_init 31 = .ok (.aload_n 0, 1) := by decide +kernel
theorem dX0_init_32 : decode cX0_init 32 = .ok (.sipush 1960, 3) := by decide +kernel
theorem dX0_init_35 : decode cX0_init 35 = .ok (.newarray .int, 2) := by decide +kernel
theorem dX0_init_37 : decode cX0_init 37 = .ok (.putfield 22, 3) := by decide +kernel
theorem dX0_init_40 : decode cX0_init 40 = .ok (.return_, 1) := by decide +kernel
theorem dX1_init_0 : decode cX1_init 0 = .ok (.aload_n 0, 1) := by decide +kernel
theorem dX1_init_1 : decode cX1_init 1 = .ok (.invokespecial 3, 3) := by decide +kernel
theorem dX1_init_4 : decode cX1_init 4 = .ok (.aload_n 0, 1) := by decide +kernel
theorem dX1_init_5 : decode cX1_init 5 = .ok (.bipush 6, 2) := by decide +kernel
theorem dX1_init_7 : decode cX1_init 7 = .ok (.newarray .int, 2) := by decide +kernel
theorem dX1_init_9 : decode cX1_init 9 = .ok (.putfield 9, 3) := by decide +kernel
theorem dX1_init_12 : decode cX1_init 12 = .ok (.aload_n 0, 1) := by decide +kernel
theorem dX1_init_13 : decode cX1_init 13 = .ok (.bipush 6, 2) := by decide +kernel
theorem dX1_init_15 : decode cX1_init 15 = .ok (.newarray .int, 2) := by decide +kernel
theorem dX1_init_17 : decode cX1_init 17 = .ok (.putfield 15, 3) := by decide +kernel
theorem dX1_init_20 : decode cX1_init 20 = .ok (.aload_n 0, 1) := by decide +kernel
theorem dX1_init_21 : decode cX1_init 21 = .ok (.bipush 6, 2) := by decide +kernel
theorem dX1_init_23 : decode cX1_init 23 = .ok (.newarray .int, 2) := by decide +kernel
theorem dX1_init_25 : decode cX1_init 25 = .ok (.putfield 18, 3) := by decide +kernel
theorem dX1_init_28 : decode cX1_init 28 = .ok (.aload_n 0, 1) := by decide +kernel
theorem dX1_init_29 : decode cX1_init 29 = .ok (.iconst 0, 1) := by decide +kernel
theorem dX1_init_30 : decode cX1_init 30 = .ok (.putfield 21, 3) := by decide +kernel
theorem dX1_init_33 : decode cX1_init 33 = .ok (.aload_n 0, 1) := by decide +kernel
theorem dX1_init_34 : decode cX1_init 34 = .ok (.iconst 0, 1) := by decide +kernel
theorem dX1_init_35 : decode cX1_init 35 = .ok (.putfield 25, 3) := by decide +kernel
theorem dX1_init_38 : decode cX1_init 38 = .ok (.aload_n 0, 1) := by decide +kernel
theorem dX1_init_39 : decode cX1_init 39 = .ok (.iconst (-1), 1) := by decide +kernel
theorem dX1_init_40 : decode cX1_init 40 = .ok (.putfield 28, 3) := by decide +kernel
theorem dX1_init_43 : decode cX1_init 43 = .ok (.aload_n 0, 1) := by decide +kernel
theorem dX1_init_44 : decode cX1_init 44 = .ok (.iconst (-1), 1) := by decide +kernel
theorem dX1_init_45 : decode cX1_init 45 = .ok (.putfield 32, 3) := by decide +kernel
theorem dX1_init_48 : decode cX1_init 48 = .ok (.aload_n 0, 1) := by decide +kernel
theorem dX1_init_49 : decode cX1_init 49 = .ok (.iconst 0, 1) := by decide +kernel
theorem dX1_init_50 : decode cX1_init 50 = .ok (.putfield 35, 3) := by decide +kernel
theorem dX1_init_53 : decode cX1_init 53 = .ok (.aload_n 0, 1) := by decide +kernel
theorem dX1_init_54 : decode cX1_init 54 = .ok (.iconst 0, 1) := by decide +kernel
theorem dX1_init_55 : decode cX1_init 55 = .ok (.putfield 38, 3) := by decide +kernel
theorem dX1_init_58 : decode cX1_init 58 = .ok (.aload_n 0, 1) := by decide +kernel
theorem dX1_init_59 : decode cX1_init 59 = .ok (.iconst 0, 1) := by decide +kernel
theorem dX1_init_60 : decode cX1_init 60 = .ok (.putfield 41, 3) := by decide +kernel
theorem dX1_init_63 : decode cX1_init 63 = .ok (.return_, 1) := by decide +kernel
theorem dX1_gather_0 : decode cX1_gather 0 = .ok (.aload_n 0, 1) := by decide +kernel
theorem dX1_gather_1 : decode cX1_gather 1 = .ok (.iload_n 2, 1) := by decide +kernel
theorem dX1_gather_2 : decode cX1_gather 2 = .ok (.putfield 28, 3) := by decide +kernel
theorem dX1_gather_5 : decode cX1_gather 5 = .ok (.aload_n 0, 1) := by decide +kernel
theorem dX1_gather_6 : decode cX1_gather 6 = .ok (.iload_n 3, 1) := by decide +kernel
theorem dX1_gather_7 : decode cX1_gather 7 = .ok (.putfield 32, 3) := by decide +kernel
theorem dX1_gather_10 : decode cX1_gather 10 = .ok (.aload_n 0, 1) := by decide +kernel
theorem dX1_gather_11 : decode cX1_gather 11 = .ok (.iconst 0, 1) := by decide +kernel
theorem dX1_gather_12 : decode cX1_gather 12 = .ok (.putfield 35, 3) := by decide +kernel
theorem dX1_gather_15 : decode cX1_gather 15 = .ok (.aload_n 0, 1) := by decide +kernel
theorem dX1_gather_16 : decode cX1_gather 16 = .ok (.iconst 0, 1) := by decide +kernel
theorem dX1_gather_17 : decode cX1_gather 17 = .ok (.putfield 25, 3) := by decide +kernel
theorem dX1_gather_20 : decode cX1_gather 20 = .ok (.iconst 0, 1) := by decide +kernel
theorem dX1_gather_21 : decode cX1_gather 21 = .ok (.istore 4, 2) := by decide +kernel
theorem dX1_gather_23 : decode cX1_gather 23 = .ok (.iload 4, 2) := by decide +kernel
theorem dX1_gather_25 : decode cX1_gather 25 = .ok (.aload_n 1, 1) := by decide +kernel
theorem dX1_gather_26 : decode cX1_gather 26 = .ok (.getfield 44, 3) := by decide +kernel
theorem dX1_gather_29 : decode cX1_gather 29 = .ok (.if_icmp .ge 74, 3) := by decide +kernel
theorem dX1_gather_32 : decode cX1_gather 32 = .ok (.aload_n 1, 1) := by decide +kernel
theorem dX1_gather_33 : decode cX1_gather 33 = .ok (.getfield 48, 3) := by decide +kernel
theorem dX1_gather_36 : decode cX1_gather 36 = .ok (.iload 4, 2) := by decide +kernel
theorem dX1_gather_38 : decode cX1_gather 38 = .ok (.iaload, 1) := by decide +kernel
theorem dX1_gather_39 : decode cX1_gather 39 = .ok (.iload_n 2, 1) := by decide +kernel
theorem dX1_gather_40 : decode cX1_gather 40 = .ok (.if_icmp .ne 57, 3) := by decide +kernel
theorem dX1_gather_43 : decode cX1_gather 43 = .ok (.aload_n 1, 1) := by decide +kernel
theorem dX1_gather_44 : decode cX1_gather 44 = .ok (.getfield 51, 3) := by decide +kernel
theorem dX1_gather_47 : decode cX1_gather 47 = .ok (.iload 4, 2) := by decide +kernel
theorem dX1_gather_49 : decode cX1_gather 49 = .ok (.iaload, 1) := by decide +kernel
theorem dX1_gather_50 : decode cX1_gather 50 = .ok (.iload_n 3, 1) := by decide +kernel
theorem dX1_gather_51 : decode cX1_gather 51 = .ok (.if_icmp .ne 46, 3) := by decide +kernel
theorem dX1_gather_54 : decode cX1_gather 54 = .ok (.aload_n 0, 1) := by decide +kernel
theorem dX1_gather_55 : decode cX1_gather 55 = .ok (.getfield 35, 3) := by decide +kernel
theorem dX1_gather_58 : decode cX1_gather 58 = .ok (.bipush 6, 2) := by decide +kernel
theorem dX1_gather_60 : decode cX1_gather 60 = .ok (.if_icmp .lt 5, 3) := by decide +kernel
theorem dX1_gather_63 : decode cX1_gather 63 = .ok (.iconst 0, 1) := by decide +kernel
theorem dX1_gather_64 : decode cX1_gather 64 = .ok (.ireturn, 1) := by decide +kernel
theorem dX1_gather_65 : decode cX1_gather 65 = .ok (.aload_n 0, 1) := by decide +kernel
theorem dX1_gather_66 : decode cX1_gather 66 = .ok (.getfield 9, 3) := by decide +kernel
theorem dX1_gather_69 : decode cX1_gather 69 = .ok (.aload_n 0, 1) := by decide +kernel
theorem dX1_gather_70 : decode cX1_gather 70 = .ok (.getfield 35, 3) := by decide +kernel
theorem dX1_gather_73 : decode cX1_gather 73 = .ok (.iload 4, 2) := by decide +kernel
theorem dX1_gather_75 : decode cX1_gather 75 = .ok (.iastore, 1) := by decide +kernel
theorem dX1_gather_76 : decode cX1_gather 76 = .ok (.aload_n 0, 1) := by decide +kernel
theorem dX1_gather_77 : decode cX1_gather 77 = .ok (.getfield 15, 3) := by decide +kernel
theorem dX1_gather_80 : decode cX1_gather 80 = .ok (.aload_n 0, 1) := by decide +kernel
theorem dX1_gather_81 : decode cX1_gather 81 = .ok (.getfield 35, 3) := by decide +kernel
theorem dX1_gather_84 : decode cX1_gather 84 = .ok (.iload 4, 2) := by decide +kernel
theorem dX1_gather_86 : decode cX1_gather 86 = .ok (.iastore, 1) := by decide +kernel
theorem dX1_gather_87 : decode cX1_gather 87 = .ok (.aload_n 0, 1) := by decide +kernel
theorem dX1_gather_88 : decode cX1_gather 88 = .ok (.dup, 1) := by decide +kernel
theorem dX1_gather_89 : decode cX1_gather 89 = .ok (.getfield 35, 3) := by decide +kernel
theorem dX1_gather_92 : decode cX1_gather 92 = .ok (.iconst 1, 1) := by decide +kernel
theorem dX1_gather_93 : decode cX1_gather 93 = .ok (.iadd, 1) := by decide +kernel
theorem dX1_gather_94 : decode cX1_gather 94 = .ok (.putfield 35, 3) := by decide +kernel
theorem dX1_gather_97 : decode cX1_gather 97 = .ok (.iinc 4 1, 3) := by decide +kernel
theorem dX1_gather_100 : decode cX1_gather 100 = .ok (.goto (-77), 3) := by decide +kernel
theorem dX1_gather_103 : decode cX1_gather 103 = .ok (.iconst 1, 1) := by decide +kernel
theorem dX1_gather_104 : decode cX1_gather 104 = .ok (.ireturn, 1) := by decide +kernel
theorem dX1_putInto_0 : decode cX1_putInto 0 = .ok (.iconst 0, 1) := by decide +kernel
theorem dX1_putInto_1 : decode cX1_putInto 1 = .ok (.istore_n 2, 1) := by decide +kernel
theorem dX1_putInto_2 : decode cX1_putInto 2 = .ok (.iload_n 2, 1) := by decide +kernel
theorem dX1_putInto_3 : decode cX1_putInto 3 = .ok (.aload_n 0, 1) := by decide +kernel
theorem dX1_putInto_4 : decode cX1_putInto 4 = .ok (.getfield 35, 3) := by decide +kernel
theorem dX1_putInto_7 : decode cX1_putInto 7 = .ok (.if_icmp .ge 26, 3) := by decide +kernel
theorem dX1_putInto_10 : decode cX1_putInto 10 = .ok (.aload_n 1, 1) := by decide +kernel
theorem dX1_putInto_11 : decode cX1_putInto 11 = .ok (.getfield 54, 3) := by decide +kernel
theorem dX1_putInto_14 : decode cX1_putInto 14 = .ok (.aload_n 0, 1) := by decide +kernel
theorem dX1_putInto_15 : decode cX1_putInto 15 = .ok (.getfield 15, 3) := by decide +kernel
theorem dX1_putInto_18 : decode cX1_putInto 18 = .ok (.iload_n 2, 1) := by decide +kernel
theorem dX1_putInto_19 : decode cX1_putInto 19 = .ok (.iaload, 1) := by decide +kernel
theorem dX1_putInto_20 : decode cX1_putInto 20 = .ok (.aload_n 0, 1) := by decide +kernel
theorem dX1_putInto_21 : decode cX1_putInto 21 = .ok (.getfield 9, 3) := by decide +kernel
theorem dX1_putInto_24 : decode cX1_putInto 24 = .ok (.iload_n 2, 1) := by decide +kernel
theorem dX1_putInto_25 : decode cX1_putInto 25 = .ok (.iaload, 1) := by decide +kernel
theorem dX1_putInto_26 : decode cX1_putInto 26 = .ok (.iastore, 1) := by decide +kernel
theorem dX1_putInto_27 : decode cX1_putInto 27 = .ok (.iinc 2 1, 3) := by decide +kernel
theorem dX1_putInto_30 : decode cX1_putInto 30 = .ok (.goto (-28), 3) := by decide +kernel
theorem dX1_putInto_33 : decode cX1_putInto 33 = .ok (.return_, 1) := by decide +kernel
theorem dX1_weigh_0 : decode cX1_weigh 0 = .ok (.aload_n 0, 1) := by decide +kernel
theorem dX1_weigh_1 : decode cX1_weigh 1 = .ok (.getfield 25, 3) := by decide +kernel
theorem dX1_weigh_4 : decode cX1_weigh 4 = .ok (.ifCond .eq 11, 3) := by decide +kernel
theorem dX1_weigh_7 : decode cX1_weigh 7 = .ok (.iload_n 1, 1) := by decide +kernel
theorem dX1_weigh_8 : decode cX1_weigh 8 = .ok (.aload_n 0, 1) := by decide +kernel
theorem dX1_weigh_9 : decode cX1_weigh 9 = .ok (.getfield 38, 3) := by decide +kernel
theorem dX1_weigh_12 : decode cX1_weigh 12 = .ok (.if_icmp .le 23, 3) := by decide +kernel
theorem dX1_weigh_15 : decode cX1_weigh 15 = .ok (.aload_n 0, 1) := by decide +kernel
theorem dX1_weigh_16 : decode cX1_weigh 16 = .ok (.iload_n 1, 1) := by decide +kernel
theorem dX1_weigh_17 : decode cX1_weigh 17 = .ok (.putfield 38, 3) := by decide +kernel
theorem dX1_weigh_20 : decode cX1_weigh 20 = .ok (.aload_n 0, 1) := by decide +kernel
theorem dX1_weigh_21 : decode cX1_weigh 21 = .ok (.getfield 15, 3) := by decide +kernel
theorem dX1_weigh_24 : decode cX1_weigh 24 = .ok (.iconst 0, 1) := by decide +kernel
theorem dX1_weigh_25 : decode cX1_weigh 25 = .ok (.aload_n 0, 1) := by decide +kernel
theorem dX1_weigh_26 : decode cX1_weigh 26 = .ok (.getfield 18, 3) := by decide +kernel
theorem dX1_weigh_29 : decode cX1_weigh 29 = .ok (.iconst 0, 1) := by decide +kernel
theorem dX1_weigh_30 : decode cX1_weigh 30 = .ok (.bipush 6, 2) := by decide +kernel
theorem dX1_weigh_32 : decode cX1_weigh 32 = .ok (.invokestatic 59, 3) := by decide +kernel
theorem dX1_weigh_35 : decode cX1_weigh 35 = .ok (.aload_n 0, 1) := by decide +kernel
theorem dX1_weigh_36 : decode cX1_weigh 36 = .ok (.getfield 25, 3) := by decide +kernel
theorem dX1_weigh_39 : decode cX1_weigh 39 = .ok (.ifCond .eq 11, 3) := by decide +kernel
theorem dX1_weigh_42 : decode cX1_weigh 42 = .ok (.iload_n 1, 1) := by decide +kernel
theorem dX1_weigh_43 : decode cX1_weigh 43 = .ok (.aload_n 0, 1) := by decide +kernel
theorem dX1_weigh_44 : decode cX1_weigh 44 = .ok (.getfield 41, 3) := by decide +kernel
theorem dX1_weigh_47 : decode cX1_weigh 47 = .ok (.if_icmp .ge 8, 3) := by decide +kernel
theorem dX1_weigh_50 : decode cX1_weigh 50 = .ok (.aload_n 0, 1) := by decide +kernel
theorem dX1_weigh_51 : decode cX1_weigh 51 = .ok (.iload_n 1, 1) := by decide +kernel
theorem dX1_weigh_52 : decode cX1_weigh 52 = .ok (.putfield 41, 3) := by decide +kernel
theorem dX1_weigh_55 : decode cX1_weigh 55 = .ok (.aload_n 0, 1) := by decide +kernel
theorem dX1_weigh_56 : decode cX1_weigh 56 = .ok (.iconst 1, 1) := by decide +kernel
theorem dX1_weigh_57 : decode cX1_weigh 57 = .ok (.putfield 25, 3) := by decide +kernel
theorem dX1_weigh_60 : decode cX1_weigh 60 = .ok (.return_, 1) := by decide +kernel
theorem dX1_next_0 : decode cX1_next 0 = .ok (.aload_n 0, 1) := by decide +kernel
theorem dX1_next_1 : decode cX1_next 1 = .ok (.getfield 35, 3) := by decide +kernel
theorem dX1_next_4 : decode cX1_next 4 = .ok (.iconst 2, 1) := by decide +kernel
theorem dX1_next_5 : decode cX1_next 5 = .ok (.isub, 1) := by decide +kernel
theorem dX1_next_6 : decode cX1_next 6 = .ok (.istore_n 1, 1) := by decide +kernel
theorem dX1_next_7 : decode cX1_next 7 = .ok (.iload_n 1, 1) := by decide +kernel
theorem dX1_next_8 : decode cX1_next 8 = .ok (.ifCond .lt 26, 3) := by decide +kernel
theorem dX1_next_11 : decode cX1_next 11 = .ok (.aload_n 0, 1) := by decide +kernel
theorem dX1_next_12 : decode cX1_next 12 = .ok (.getfield 15, 3) := by decide +kernel
theorem dX1_next_15 : decode cX1_next 15 = .ok (.iload_n 1, 1) := by decide +kernel
theorem dX1_next_16 : decode cX1_next 16 = .ok (.iaload, 1) := by decide +kernel
theorem dX1_next_17 : decode cX1_next 17 = .ok (.aload_n 0, 1) := by decide +kernel
theorem dX1_next_18 : decode cX1_next 18 = .ok (.getfield 15, 3) := by decide +kernel
theorem dX1_next_21 : decode cX1_next 21 = .ok (.iload_n 1, 1) := by decide +kernel
theorem dX1_next_22 : decode cX1_next 22 = .ok (.iconst 1, 1) := by decide +kernel
theorem dX1_next_23 : decode cX1_next 23 = .ok (.iadd, 1) := by decide +kernel
theorem dX1_next_24 : decode cX1_next 24 = .ok (.iaload, 1) := by decide +kernel
theorem dX1_next_25 : decode cX1_next 25 = .ok (.if_icmp .le 9, 3) := by decide +kernel
theorem dX1_next_28 : decode cX1_next 28 = .ok (.iinc 1 (-1), 3) := by decide +kernel
theorem dX1_next_31 : decode cX1_next 31 = .ok (.goto (-24), 3) := by decide +kernel
theorem dX1_next_34 : decode cX1_next 34 = .ok (.iload_n 1, 1) := by decide +kernel
theorem dX1_next_35 : decode cX1_next 35 = .ok (.ifCond .ge 5, 3) := by decide +kernel
theorem dX1_next_38 : decode cX1_next 38 = .ok (.iconst 0, 1) := by decide +kernel
theorem dX1_next_39 : decode cX1_next 39 = .ok (.ireturn, 1) := by decide +kernel
theorem dX1_next_40 : decode cX1_next 40 = .ok (.aload_n 0, 1) := by decide +kernel
theorem dX1_next_41 : decode cX1_next 41 = .ok (.getfield 35, 3) := by decide +kernel
theorem dX1_next_44 : decode cX1_next 44 = .ok (.iconst 1, 1) := by decide +kernel
theorem dX1_next_45 : decode cX1_next 45 = .ok (.isub, 1) := by decide +kernel
theorem dX1_next_46 : decode cX1_next 46 = .ok (.istore_n 2, 1) := by decide +kernel
theorem dX1_next_47 : decode cX1_next 47 = .ok (.iload_n 2, 1) := by decide +kernel
theorem dX1_next_48 : decode cX1_next 48 = .ok (.iload_n 1, 1) := by decide +kernel
theorem dX1_next_49 : decode cX1_next 49 = .ok (.if_icmp .le 24, 3) := by decide +kernel
theorem dX1_next_52 : decode cX1_next 52 = .ok (.aload_n 0, 1) := by decide +kernel
theorem dX1_next_53 : decode cX1_next 53 = .ok (.getfield 15, 3) := by decide +kernel
theorem dX1_next_56 : decode cX1_next 56 = .ok (.iload_n 2, 1) := by decide +kernel
theorem dX1_next_57 : decode cX1_next 57 = .ok (.iaload, 1) := by decide +kernel
theorem dX1_next_58 : decode cX1_next 58 = .ok (.aload_n 0, 1) := by decide +kernel
theorem dX1_next_59 : decode cX1_next 59 = .ok (.getfield 15, 3) := by decide +kernel
theorem dX1_next_62 : decode cX1_next 62 = .ok (.iload_n 1, 1) := by decide +kernel
theorem dX1_next_63 : decode cX1_next 63 = .ok (.iaload, 1) := by decide +kernel
theorem dX1_next_64 : decode cX1_next 64 = .ok (.if_icmp .ge 9, 3) := by decide +kernel
theorem dX1_next_67 : decode cX1_next 67 = .ok (.iinc 2 (-1), 3) := by decide +kernel
theorem dX1_next_70 : decode cX1_next 70 = .ok (.goto (-23), 3) := by decide +kernel
theorem dX1_next_73 : decode cX1_next 73 = .ok (.aload_n 0, 1) := by decide +kernel
theorem dX1_next_74 : decode cX1_next 74 = .ok (.iload_n 1, 1) := by decide +kernel
theorem dX1_next_75 : decode cX1_next 75 = .ok (.iload_n 2, 1) := by decide +kernel
theorem dX1_next_76 : decode cX1_next 76 = .ok (.invokevirtual 65, 3) := by decide +kernel
theorem dX1_next_79 : decode cX1_next 79 = .ok (.iload_n 1, 1) := by decide +kernel
theorem dX1_next_80 : decode cX1_next 80 = .ok (.iconst 1, 1) := by decide +kernel
theorem dX1_next_81 : decode cX1_next 81 = .ok (.iadd, 1) := by decide +kernel
theorem dX1_next_82 : decode cX1_next 82 = .ok (.istore_n 3, 1) := by decide +kernel
theorem dX1_next_83 : decode cX1_next 83 = .ok (.aload_n 0, 1) := by decide +kernel
theorem dX1_next_84 : decode cX1_next 84 = .ok (.getfield 35, 3) := by decide +kernel
theorem dX1_next_87 : decode cX1_next 87 = .ok (.iconst 1, 1) := by decide +kernel
theorem dX1_next_88 : decode cX1_next 88 = .ok (.isub, 1) := by decide +kernel
theorem dX1_next_89 : decode cX1_next 89 = .ok (.istore 4, 2) := by decide +kernel
theorem dX1_next_91 : decode cX1_next 91 = .ok (.iload_n 3, 1) := by decide +kernel
theorem dX1_next_92 : decode cX1_next 92 = .ok (.iload 4, 2) := by decide +kernel
theorem dX1_next_94 : decode cX1_next 94 = .ok (.if_icmp .ge 19, 3) := by decide +kernel
theorem dX1_next_97 : decode cX1_next 97 = .ok (.aload_n 0, 1) := by decide +kernel
theorem dX1_next_98 : decode cX1_next 98 = .ok (.iload_n 3, 1) := by decide +kernel
theorem dX1_next_99 : decode cX1_next 99 = .ok (.iload 4, 2) := by decide +kernel
theorem dX1_next_101 : decode cX1_next 101 = .ok (.invokevirtual 65, 3) := by decide +kernel
theorem dX1_next_104 : decode cX1_next 104 = .ok (.iinc 3 1, 3) := by decide +kernel
theorem dX1_next_107 : decode cX1_next 107 = .ok (.iinc 4 (-1), 3) := by decide +kernel
theorem dX1_next_110 : decode cX1_next 110 = .ok (.goto (-19), 3) := by decide +kernel
theorem dX1_next_113 : decode cX1_next 113 = .ok (.iconst 1, 1) := by decide +kernel
theorem dX1_next_114 : decode cX1_next 114 = .ok (.ireturn, 1) := by decide +kernel
theorem dX1_swap_0 : decode cX1_swap 0 = .ok (.aload_n 0, 1) := by decide +kernel
theorem dX1_swap_1 : decode cX1_swap 1 = .ok (.getfield 15, 3) := by decide +kernel
theorem dX1_swap_4 : decode cX1_swap 4 = .ok (.iload_n 1, 1) := by decide +kernel
theorem dX1_swap_5 : decode cX1_swap 5 = .ok (.iaload, 1) := by decide +kernel
theorem dX1_swap_6 : decode cX1_swap 6 = .ok (.istore_n 3, 1) := by decide +kernel
theorem dX1_swap_7 : decode cX1_swap 7 = .ok (.aload_n 0, 1) := by decide +kernel
theorem dX1_swap_8 : decode cX1_swap 8 = .ok (.getfield 15, 3) := by decide +kernel
theorem dX1_swap_11 : decode cX1_swap 11 = .ok (.iload_n 1, 1) := by decide +kernel
theorem dX1_swap_12 : decode cX1_swap 12 = .ok (.aload_n 0, 1) := by decide +kernel
theorem dX1_swap_13 : decode cX1_swap 13 = .ok (.getfield 15, 3) := by decide +kernel
theorem dX1_swap_16 : decode cX1_swap 16 = .ok (.iload_n 2, 1) := by decide +kernel
theorem dX1_swap_17 : decode cX1_swap 17 = .ok (.iaload, 1) := by decide +kernel
theorem dX1_swap_18 : decode cX1_swap 18 = .ok (.iastore, 1) := by decide +kernel
theorem dX1_swap_19 : decode cX1_swap 19 = .ok (.aload_n 0, 1) := by decide +kernel
theorem dX1_swap_20 : decode cX1_swap 20 = .ok (.getfield 15, 3) := by decide +kernel
theorem dX1_swap_23 : decode cX1_swap 23 = .ok (.iload_n 2, 1) := by decide +kernel
theorem dX1_swap_24 : decode cX1_swap 24 = .ok (.iload_n 3, 1) := by decide +kernel
theorem dX1_swap_25 : decode cX1_swap 25 = .ok (.iastore, 1) := by decide +kernel
theorem dX1_swap_26 : decode cX1_swap 26 = .ok (.return_, 1) := by decide +kernel
theorem dX2_init_0 : decode cX2_init 0 = .ok (.aload_n 0, 1) := by decide +kernel
theorem dX2_init_1 : decode cX2_init 1 = .ok (.invokespecial 3, 3) := by decide +kernel
theorem dX2_init_4 : decode cX2_init 4 = .ok (.aload_n 0, 1) := by decide +kernel
theorem dX2_init_5 : decode cX2_init 5 = .ok (.new 9, 3) := by decide +kernel
theorem dX2_init_8 : decode cX2_init 8 = .ok (.dup, 1) := by decide +kernel
theorem dX2_init_9 : decode cX2_init 9 = .ok (.invokespecial 11, 3) := by decide +kernel
theorem dX2_init_12 : decode cX2_init 12 = .ok (.putfield 12, 3) := by decide +kernel
theorem dX2_init_15 : decode cX2_init 15 = .ok (.aload_n 0, 1) := by decide +kernel
theorem dX2_init_16 : decode cX2_init 16 = .ok (.bipush 49, 2) := by decide +kernel
theorem dX2_init_18 : decode cX2_init 18 = .ok (.newarray .int, 2) := by decide +kernel
theorem dX2_init_20 : decode cX2_init 20 = .ok (.putfield 18, 3) := by decide +kernel
theorem dX2_init_23 : decode cX2_init 23 = .ok (.aload_n 0, 1) := by decide +kernel
theorem dX2_init_24 : decode cX2_init 24 = .ok (.iconst (-1), 1) := by decide +kernel
theorem dX2_init_25 : decode cX2_init 25 = .ok (.putfield 22, 3) := by decide +kernel
theorem dX2_init_28 : decode cX2_init 28 = .ok (.aload_n 0, 1) := by decide +kernel
theorem dX2_init_29 : decode cX2_init 29 = .ok (.iconst (-1), 1) := by decide +kernel
theorem dX2_init_30 : decode cX2_init 30 = .ok (.putfield 26, 3) := by decide +kernel
theorem dX2_init_33 : decode cX2_init 33 = .ok (.aload_n 0, 1) := by decide +kernel
theorem dX2_init_34 : decode cX2_init 34 = .ok (.iconst 0, 1) := by decide +kernel
theorem dX2_init_35 : decode cX2_init 35 = .ok (.putfield 29, 3) := by decide +kernel
theorem dX2_init_38 : decode cX2_init 38 = .ok (.aload_n 0, 1) := by decide +kernel
theorem dX2_init_39 : decode cX2_init 39 = .ok (.iconst (-1), 1) := by decide +kernel
theorem dX2_init_40 : decode cX2_init 40 = .ok (.putfield 32, 3) := by decide +kernel
theorem dX2_init_43 : decode cX2_init 43 = .ok (.aload_n 0, 1) := by decide +kernel
theorem dX2_init_44 : decode cX2_init 44 = .ok (.iconst (-1), 1) := by decide +kernel
theorem dX2_init_45 : decode cX2_init 45 = .ok (.putfield 35, 3) := by decide +kernel
theorem dX2_init_48 : decode cX2_init 48 = .ok (.return_, 1) := by decide +kernel
theorem dX2_take_0 : decode cX2_take 0 = .ok (.aload_n 0, 1) := by decide +kernel
theorem dX2_take_1 : decode cX2_take 1 = .ok (.getfield 12, 3) := by decide +kernel
theorem dX2_take_4 : decode cX2_take 4 = .ok (.aload_n 1, 1) := by decide +kernel
theorem dX2_take_5 : decode cX2_take 5 = .ok (.invokevirtual 38, 3) := by decide +kernel
theorem dX2_take_8 : decode cX2_take 8 = .ok (.iconst 0, 1) := by decide +kernel
theorem dX2_take_9 : decode cX2_take 9 = .ok (.istore_n 2, 1) := by decide +kernel
theorem dX2_take_10 : decode cX2_take 10 = .ok (.iload_n 2, 1) := by decide +kernel
theorem dX2_take_11 : decode cX2_take 11 = .ok (.bipush 49, 2) := by decide +kernel
theorem dX2_take_13 : decode cX2_take 13 = .ok (.if_icmp .ge 16, 3) := by decide +kernel
theorem dX2_take_16 : decode cX2_take 16 = .ok (.aload_n 0, 1) := by decide +kernel
theorem dX2_take_17 : decode cX2_take 17 = .ok (.getfield 18, 3) := by decide +kernel
theorem dX2_take_20 : decode cX2_take 20 = .ok (.iload_n 2, 1) := by decide +kernel
theorem dX2_take_21 : decode cX2_take 21 = .ok (.iload_n 2, 1) := by decide +kernel
theorem dX2_take_22 : decode cX2_take 22 = .ok (.iastore, 1) := by decide +kernel
theorem dX2_take_23 : decode cX2_take 23 = .ok (.iinc 2 1, 3) := by decide +kernel
theorem dX2_take_26 : decode cX2_take 26 = .ok (.goto (-16), 3) := by decide +kernel
theorem dX2_take_29 : decode cX2_take 29 = .ok (.aload_n 0, 1) := by decide +kernel
theorem dX2_take_30 : decode cX2_take 30 = .ok (.iconst (-1), 1) := by decide +kernel
theorem dX2_take_31 : decode cX2_take 31 = .ok (.putfield 22, 3) := by decide +kernel
theorem dX2_take_34 : decode cX2_take 34 = .ok (.aload_n 0, 1) := by decide +kernel
theorem dX2_take_35 : decode cX2_take 35 = .ok (.iconst (-1), 1) := by decide +kernel
theorem dX2_take_36 : decode cX2_take 36 = .ok (.putfield 26, 3) := by decide +kernel
theorem dX2_take_39 : decode cX2_take 39 = .ok (.aload_n 0, 1) := by decide +kernel
theorem dX2_take_40 : decode cX2_take 40 = .ok (.iconst 0, 1) := by decide +kernel
theorem dX2_take_41 : decode cX2_take 41 = .ok (.putfield 29, 3) := by decide +kernel
theorem dX2_take_44 : decode cX2_take 44 = .ok (.aload_n 0, 1) := by decide +kernel
theorem dX2_take_45 : decode cX2_take 45 = .ok (.iconst (-1), 1) := by decide +kernel
theorem dX2_take_46 : decode cX2_take 46 = .ok (.putfield 32, 3) := by decide +kernel
theorem dX2_take_49 : decode cX2_take 49 = .ok (.aload_n 0, 1) := by decide +kernel
theorem dX2_take_50 : decode cX2_take 50 = .ok (.iconst (-1), 1) := by decide +kernel
theorem dX2_take_51 : decode cX2_take 51 = .ok (.putfield 35, 3) := by decide +kernel
theorem dX2_take_54 : decode cX2_take 54 = .ok (.return_, 1) := by decide +kernel
theorem dX2_addLetter_0 : decode cX2_addLetter 0 = .ok (.aload_n 0, 1) := by decide +kernel
theorem dX2_addLetter_1 : decode cX2_addLetter 1 = .ok (.getfield 12, 3) := by decide +kernel
theorem dX2_addLetter_4 : decode cX2_addLetter 4 = .ok (.getfield 42, 3) := by decide +kernel
theorem dX2_addLetter_7 : decode cX2_addLetter 7 = .ok (.bipush 48, 2) := by decide +kernel
theorem dX2_addLetter_9 : decode cX2_addLetter 9 = .ok (.iload_n 1, 1) := by decide +kernel
theorem dX2_addLetter_10 : decode cX2_addLetter 10 = .ok (.iastore, 1) := by decide +kernel
theorem dX2_addLetter_11 : decode cX2_addLetter 11 = .ok (.aload_n 0, 1) := by decide +kernel
theorem dX2_addLetter_12 : decode cX2_addLetter 12 = .ok (.getfield 12, 3) := by decide +kernel
theorem dX2_addLetter_15 : decode cX2_addLetter 15 = .ok (.getfield 45, 3) := by decide +kernel
theorem dX2_addLetter_18 : decode cX2_addLetter 18 = .ok (.bipush 48, 2) := by decide +kernel
theorem dX2_addLetter_20 : decode cX2_addLetter 20 = .ok (.iload_n 2, 1) := by decide +kernel
theorem dX2_addLetter_21 : decode cX2_addLetter 21 = .ok (.iastore, 1) := by decide +kernel
theorem dX2_addLetter_22 : decode cX2_addLetter 22 = .ok (.aload_n 0, 1) := by decide +kernel
theorem dX2_addLetter_23 : decode cX2_addLetter 23 = .ok (.getfield 12, 3) := by decide +kernel
theorem dX2_addLetter_26 : decode cX2_addLetter 26 = .ok (.getfield 48, 3) := by decide +kernel
theorem dX2_addLetter_29 : decode cX2_addLetter 29 = .ok (.bipush 48, 2) := by decide +kernel
theorem dX2_addLetter_31 : decode cX2_addLetter 31 = .ok (.iload_n 3, 1) := by decide +kernel
theorem dX2_addLetter_32 : decode cX2_addLetter 32 = .ok (.iastore, 1) := by decide +kernel
theorem dX2_addLetter_33 : decode cX2_addLetter 33 = .ok (.aload_n 0, 1) := by decide +kernel
theorem dX2_addLetter_34 : decode cX2_addLetter 34 = .ok (.getfield 12, 3) := by decide +kernel
theorem dX2_addLetter_37 : decode cX2_addLetter 37 = .ok (.getfield 51, 3) := by decide +kernel
theorem dX2_addLetter_40 : decode cX2_addLetter 40 = .ok (.bipush 48, 2) := by decide +kernel
theorem dX2_addLetter_42 : decode cX2_addLetter 42 = .ok (.iload 4, 2) := by decide +kernel
theorem dX2_addLetter_44 : decode cX2_addLetter 44 = .ok (.iastore, 1) := by decide +kernel
theorem dX2_addLetter_45 : decode cX2_addLetter 45 = .ok (.return_, 1) := by decide +kernel
theorem dX2_addVisit_0 : decode cX2_addVisit 0 = .ok (.aload_n 0, 1) := by decide +kernel
theorem dX2_addVisit_1 : decode cX2_addVisit 1 = .ok (.iload_n 1, 1) := by decide +kernel
theorem dX2_addVisit_2 : decode cX2_addVisit 2 = .ok (.putfield 22, 3) := by decide +kernel
theorem dX2_addVisit_5 : decode cX2_addVisit 5 = .ok (.aload_n 0, 1) := by decide +kernel
theorem dX2_addVisit_6 : decode cX2_addVisit 6 = .ok (.iload_n 2, 1) := by decide +kernel
theorem dX2_addVisit_7 : decode cX2_addVisit 7 = .ok (.putfield 26, 3) := by decide +kernel
theorem dX2_addVisit_10 : decode cX2_addVisit 10 = .ok (.aload_n 0, 1) := by decide +kernel
theorem dX2_addVisit_11 : decode cX2_addVisit 11 = .ok (.iload_n 3, 1) := by decide +kernel
theorem dX2_addVisit_12 : decode cX2_addVisit 12 = .ok (.putfield 29, 3) := by decide +kernel
theorem dX2_addVisit_15 : decode cX2_addVisit 15 = .ok (.return_, 1) := by decide +kernel
theorem dX2_addBurning_0 : decode cX2_addBurning 0 = .ok (.aload_n 0, 1) := by decide +kernel
theorem dX2_addBurning_1 : decode cX2_addBurning 1 = .ok (.iload_n 1, 1) := by decide +kernel
theorem dX2_addBurning_2 : decode cX2_addBurning 2 = .ok (.putfield 32, 3) := by decide +kernel
theorem dX2_addBurning_5 : decode cX2_addBurning 5 = .ok (.aload_n 0, 1) := by decide +kernel
theorem dX2_addBurning_6 : decode cX2_addBurning 6 = .ok (.iload_n 2, 1) := by decide +kernel
theorem dX2_addBurning_7 : decode cX2_addBurning 7 = .ok (.putfield 35, 3) := by decide +kernel
theorem dX2_addBurning_10 : decode cX2_addBurning 10 = .ok (.return_, 1) := by decide +kernel
theorem dX2_hoursOf_0 : decode cX2_hoursOf 0 = .ok (.aload_n 0, 1) := by decide +kernel
theorem dX2_hoursOf_1 : decode cX2_hoursOf 1 = .ok (.getfield 12, 3) := by decide +kernel
theorem dX2_hoursOf_4 : decode cX2_hoursOf 4 = .ok (.getfield 54, 3) := by decide +kernel
theorem dX2_hoursOf_7 : decode cX2_hoursOf 7 = .ok (.iload_n 1, 1) := by decide +kernel
theorem dX2_hoursOf_8 : decode cX2_hoursOf 8 = .ok (.iaload, 1) := by decide +kernel
theorem dX2_hoursOf_9 : decode cX2_hoursOf 9 = .ok (.iconst 2, 1) := by decide +kernel
theorem dX2_hoursOf_10 : decode cX2_hoursOf 10 = .ok (.if_icmp .ne 14, 3) := by decide +kernel
theorem dX2_hoursOf_13 : decode cX2_hoursOf 13 = .ok (.iload_n 2, 1) := by decide +kernel
theorem dX2_hoursOf_14 : decode cX2_hoursOf 14 = .ok (.bipush 7, 2) := by decide +kernel
theorem dX2_hoursOf_16 : decode cX2_hoursOf 16 = .ok (.irem, 1) := by decide +kernel
theorem dX2_hoursOf_17 : decode cX2_hoursOf 17 = .ok (.bipush 6, 2) := by decide +kernel
theorem dX2_hoursOf_19 : decode cX2_hoursOf 19 = .ok (.if_icmp .ne 5, 3) := by decide +kernel
theorem dX2_hoursOf_22 : decode cX2_hoursOf 22 = .ok (.iconst 0, 1) := by decide +kernel
theorem dX2_hoursOf_23 : decode cX2_hoursOf 23 = .ok (.ireturn, 1) := by decide +kernel
theorem dX2_hoursOf_24 : decode cX2_hoursOf 24 = .ok (.iload_n 2, 1) := by decide +kernel
theorem dX2_hoursOf_25 : decode cX2_hoursOf 25 = .ok (.aload_n 0, 1) := by decide +kernel
theorem dX2_hoursOf_26 : decode cX2_hoursOf 26 = .ok (.getfield 26, 3) := by decide +kernel
theorem dX2_hoursOf_29 : decode cX2_hoursOf 29 = .ok (.if_icmp .ne 46, 3) := by decide +kernel
theorem dX2_hoursOf_32 : decode cX2_hoursOf 32 = .ok (.aload_n 0, 1) := by decide +kernel
theorem dX2_hoursOf_33 : decode cX2_hoursOf 33 = .ok (.getfield 22, 3) := by decide +kernel
theorem dX2_hoursOf_36 : decode cX2_hoursOf 36 = .ok (.iconst (-1), 1) := by decide +kernel
theorem dX2_hoursOf_37 : decode cX2_hoursOf 37 = .ok (.if_icmp .eq 38, 3) := by decide +kernel
theorem dX2_hoursOf_40 : decode cX2_hoursOf 40 = .ok (.aload_n 0, 1) := by decide +kernel
theorem dX2_hoursOf_41 : decode cX2_hoursOf 41 = .ok (.getfield 12, 3) := by decide +kernel
theorem dX2_hoursOf_44 : decode cX2_hoursOf 44 = .ok (.getfield 42, 3) := by decide +kernel
theorem dX2_hoursOf_47 : decode cX2_hoursOf 47 = .ok (.aload_n 0, 1) := by decide +kernel
theorem dX2_hoursOf_48 : decode cX2_hoursOf 48 = .ok (.getfield 22, 3) := by decide +kernel
theorem dX2_hoursOf_51 : decode cX2_hoursOf 51 = .ok (.iaload, 1) := by decide +kernel
theorem dX2_hoursOf_52 : decode cX2_hoursOf 52 = .ok (.iload_n 1, 1) := by decide +kernel
theorem dX2_hoursOf_53 : decode cX2_hoursOf 53 = .ok (.if_icmp .ne 22, 3) := by decide +kernel
theorem dX2_hoursOf_56 : decode cX2_hoursOf 56 = .ok (.iconst 0, 1) := by decide +kernel
theorem dX2_hoursOf_57 : decode cX2_hoursOf 57 = .ok (.aload_n 0, 1) := by decide +kernel
theorem dX2_hoursOf_58 : decode cX2_hoursOf 58 = .ok (.getfield 12, 3) := by decide +kernel
theorem dX2_hoursOf_61 : decode cX2_hoursOf 61 = .ok (.getfield 57, 3) := by decide +kernel
theorem dX2_hoursOf_64 : decode cX2_hoursOf 64 = .ok (.iload_n 1, 1) := by decide +kernel
theorem dX2_hoursOf_65 : decode cX2_hoursOf 65 = .ok (.iaload, 1) := by decide +kernel
theorem dX2_hoursOf_66 : decode cX2_hoursOf 66 = .ok (.aload_n 0, 1) := by decide +kernel
theorem dX2_hoursOf_67 : decode cX2_hoursOf 67 = .ok (.getfield 29, 3) := by decide +kernel
theorem dX2_hoursOf_70 : decode cX2_hoursOf 70 = .ok (.isub, 1) := by decide +kernel
theorem dX2_hoursOf_71 : decode cX2_hoursOf 71 = .ok (.invokestatic 60, 3) := by decide +kernel
theorem dX2_hoursOf_74 : decode cX2_hoursOf 74 = .ok (.ireturn, 1) := by decide +kernel
theorem dX2_hoursOf_75 : decode cX2_hoursOf 75 = .ok (.aload_n 0, 1) := by decide +kernel
theorem dX2_hoursOf_76 : decode cX2_hoursOf 76 = .ok (.getfield 12, 3) := by decide +kernel
theorem dX2_hoursOf_79 : decode cX2_hoursOf 79 = .ok (.getfield 57, 3) := by decide +kernel
theorem dX2_hoursOf_82 : decode cX2_hoursOf 82 = .ok (.iload_n 1, 1) := by decide +kernel
theorem dX2_hoursOf_83 : decode cX2_hoursOf 83 = .ok (.iaload, 1) := by decide +kernel
theorem dX2_hoursOf_84 : decode cX2_hoursOf 84 = .ok (.ireturn, 1) := by decide +kernel
theorem dX2_keyOf_0 : decode cX2_keyOf 0 = .ok (.iload_n 2, 1) := by decide +kernel
theorem dX2_keyOf_1 : decode cX2_keyOf 1 = .ok (.bipush 64, 2) := by decide +kernel
theorem dX2_keyOf_3 : decode cX2_keyOf 3 = .ok (.imul, 1) := by decide +kernel
theorem dX2_keyOf_4 : decode cX2_keyOf 4 = .ok (.aload_n 0, 1) := by decide +kernel
theorem dX2_keyOf_5 : decode cX2_keyOf 5 = .ok (.getfield 18, 3) := by decide +kernel
theorem dX2_keyOf_8 : decode cX2_keyOf 8 = .ok (.iload_n 1, 1) := by decide +kernel
theorem dX2_keyOf_9 : decode cX2_keyOf 9 = .ok (.iaload, 1) := by decide +kernel
theorem dX2_keyOf_10 : decode cX2_keyOf 10 = .ok (.iadd, 1) := by decide +kernel
theorem dX2_keyOf_11 : decode cX2_keyOf 11 = .ok (.istore_n 3, 1) := by decide +kernel
theorem dX2_keyOf_12 : decode cX2_keyOf 12 = .ok (.aload_n 0, 1) := by decide +kernel
theorem dX2_keyOf_13 : decode cX2_keyOf 13 = .ok (.getfield 12, 3) := by decide +kernel
theorem dX2_keyOf_16 : decode cX2_keyOf 16 = .ok (.getfield 66, 3) := by decide +kernel
theorem dX2_keyOf_19 : decode cX2_keyOf 19 = .ok (.tableswitch 54 1 3 #[25, 28, 47], 25) := by decide +kernel
theorem dX2_keyOf_44 : decode cX2_keyOf 44 = .ok (.iload_n 3, 1) := by decide +kernel
theorem dX2_keyOf_45 : decode cX2_keyOf 45 = .ok (.ineg, 1) := by decide +kernel
theorem dX2_keyOf_46 : decode cX2_keyOf 46 = .ok (.ireturn, 1) := by decide +kernel
theorem dX2_keyOf_47 : decode cX2_keyOf 47 = .ok (.bipush 99, 2) := by decide +kernel
theorem dX2_keyOf_49 : decode cX2_keyOf 49 = .ok (.aload_n 0, 1) := by decide +kernel
theorem dX2_keyOf_50 : decode cX2_keyOf 50 = .ok (.getfield 12, 3) := by decide +kernel
theorem dX2_keyOf_53 : decode cX2_keyOf 53 = .ok (.getfield 69, 3) := by decide +kernel
theorem dX2_keyOf_56 : decode cX2_keyOf 56 = .ok (.iload_n 1, 1) := by decide +kernel
theorem dX2_keyOf_57 : decode cX2_keyOf 57 = .ok (.iaload, 1) := by decide +kernel
theorem dX2_keyOf_58 : decode cX2_keyOf 58 = .ok (.isub, 1) := by decide +kernel
theorem dX2_keyOf_59 : decode cX2_keyOf 59 = .ok (.sipush 4096, 3) := by decide +kernel
theorem dX2_keyOf_62 : decode cX2_keyOf 62 = .ok (.imul, 1) := by decide +kernel
theorem dX2_keyOf_63 : decode cX2_keyOf 63 = .ok (.iload_n 3, 1) := by decide +kernel
theorem dX2_keyOf_64 : decode cX2_keyOf 64 = .ok (.iadd, 1) := by decide +kernel
theorem dX2_keyOf_65 : decode cX2_keyOf 65 = .ok (.ireturn, 1) := by decide +kernel
theorem dX2_keyOf_66 : decode cX2_keyOf 66 = .ok (.aload_n 0, 1) := by decide +kernel
theorem dX2_keyOf_67 : decode cX2_keyOf 67 = .ok (.getfield 18, 3) := by decide +kernel
theorem dX2_keyOf_70 : decode cX2_keyOf 70 = .ok (.iload_n 1, 1) := by decide +kernel
theorem dX2_keyOf_71 : decode cX2_keyOf 71 = .ok (.iaload, 1) := by decide +kernel
theorem dX2_keyOf_72 : decode cX2_keyOf 72 = .ok (.ireturn, 1) := by decide +kernel
theorem dX2_keyOf_73 : decode cX2_keyOf 73 = .ok (.iload_n 3, 1) := by decide +kernel
theorem dX2_keyOf_74 : decode cX2_keyOf 74 = .ok (.ireturn, 1) := by decide +kernel
theorem dX3_init_0 : decode cX3_init 0 = .ok (.aload_n 0, 1) := by decide +kernel
theorem dX3_init_1 : decode cX3_init 1 = .ok (.invokespecial 3, 3) := by decide +kernel
theorem dX3_init_4 : decode cX3_init 4 = .ok (.aload_n 0, 1) := by decide +kernel
theorem dX3_init_5 : decode cX3_init 5 = .ok (.new 9, 3) := by decide +kernel
theorem dX3_init_8 : decode cX3_init 8 = .ok (.dup, 1) := by decide +kernel
theorem dX3_init_9 : decode cX3_init 9 = .ok (.invokespecial 11, 3) := by decide +kernel
theorem dX3_init_12 : decode cX3_init 12 = .ok (.putfield 12, 3) := by decide +kernel
theorem dX3_init_15 : decode cX3_init 15 = .ok (.aload_n 0, 1) := by decide +kernel
theorem dX3_init_16 : decode cX3_init 16 = .ok (.iconst 0, 1) := by decide +kernel
theorem dX3_init_17 : decode cX3_init 17 = .ok (.putfield 18, 3) := by decide +kernel
theorem dX3_init_20 : decode cX3_init 20 = .ok (.aload_n 0, 1) := by decide +kernel
theorem dX3_init_21 : decode cX3_init 21 = .ok (.iconst 0, 1) := by decide +kernel
theorem dX3_init_22 : decode cX3_init 22 = .ok (.putfield 22, 3) := by decide +kernel
theorem dX3_init_25 : decode cX3_init 25 = .ok (.aload_n 0, 1) := by decide +kernel
theorem dX3_init_26 : decode cX3_init 26 = .ok (.iconst 0, 1) := by decide +kernel
theorem dX3_init_27 : decode cX3_init 27 = .ok (.putfield 25, 3) := by decide +kernel
theorem dX3_init_30 : decode cX3_init 30 = .ok (.aload_n 0, 1) := by decide +kernel
theorem dX3_init_31 : decode cX3_init 31 = .ok (.iconst 0, 1) := by decide +kernel
theorem dX3_init_32 : decode cX3_init 32 = .ok (.putfield 28, 3) := by decide +kernel
theorem dX3_init_35 : decode cX3_init 35 = .ok (.aload_n 0, 1) := by decide +kernel
theorem dX3_init_36 : decode cX3_init 36 = .ok (.iconst 0, 1) := by decide +kernel
theorem dX3_init_37 : decode cX3_init 37 = .ok (.putfield 31, 3) := by decide +kernel
theorem dX3_init_40 : decode cX3_init 40 = .ok (.aload_n 0, 1) := by decide +kernel
theorem dX3_init_41 : decode cX3_init 41 = .ok (.iconst (-1), 1) := by decide +kernel
theorem dX3_init_42 : decode cX3_init 42 = .ok (.putfield 34, 3) := by decide +kernel
theorem dX3_init_45 : decode cX3_init 45 = .ok (.aload_n 0, 1) := by decide +kernel
theorem dX3_init_46 : decode cX3_init 46 = .ok (.aload_n 1, 1) := by decide +kernel
theorem dX3_init_47 : decode cX3_init 47 = .ok (.putfield 37, 3) := by decide +kernel
theorem dX3_init_50 : decode cX3_init 50 = .ok (.return_, 1) := by decide +kernel
theorem dX3_readAll_0 : decode cX3_readAll 0 = .ok (.aload_n 0, 1) := by decide +kernel
theorem dX3_readAll_1 : decode cX3_readAll 1 = .ok (.getfield 12, 3) := by decide +kernel
theorem dX3_readAll_4 : decode cX3_readAll 4 = .ok (.invokevirtual 41, 3) := by decide +kernel
theorem dX3_readAll_7 : decode cX3_readAll 7 = .ok (.aload_n 0, 1) := by decide +kernel
theorem dX3_readAll_8 : decode cX3_readAll 8 = .ok (.iconst 0, 1) := by decide +kernel
theorem dX3_readAll_9 : decode cX3_readAll 9 = .ok (.putfield 31, 3) := by decide +kernel
theorem dX3_readAll_12 : decode cX3_readAll 12 = .ok (.aload_n 0, 1) := by decide +kernel
theorem dX3_readAll_13 : decode cX3_readAll 13 = .ok (.iconst (-1), 1) := by decide +kernel
theorem dX3_readAll_14 : decode cX3_readAll 14 = .ok (.putfield 34, 3) := by decide +kernel
theorem dX3_readAll_17 : decode cX3_readAll 17 = .ok (.aload_n 0, 1) := by decide +kernel
theorem dX3_readAll_18 : decode cX3_readAll 18 = .ok (.iconst 0, 1) := by decide +kernel
theorem dX3_readAll_19 : decode cX3_readAll 19 = .ok (.putfield 25, 3) := by decide +kernel
theorem dX3_readAll_22 : decode cX3_readAll 22 = .ok (.aload_n 0, 1) := by decide +kernel
theorem dX3_readAll_23 : decode cX3_readAll 23 = .ok (.invokevirtual 44, 3) := by decide +kernel
theorem dX3_readAll_26 : decode cX3_readAll 26 = .ok (.iconst 0, 1) := by decide +kernel
theorem dX3_readAll_27 : decode cX3_readAll 27 = .ok (.istore_n 1, 1) := by decide +kernel
theorem dX3_readAll_28 : decode cX3_readAll 28 = .ok (.iload_n 1, 1) := by decide +kernel
theorem dX3_readAll_29 : decode cX3_readAll 29 = .ok (.sipush 2400, 3) := by decide +kernel
theorem dX3_readAll_32 : decode cX3_readAll 32 = .ok (.if_icmp .gt 56, 3) := by decide +kernel
theorem dX3_readAll_35 : decode cX3_readAll 35 = .ok (.aload_n 0, 1) := by decide +kernel
theorem dX3_readAll_36 : decode cX3_readAll 36 = .ok (.getfield 18, 3) := by decide +kernel
theorem dX3_readAll_39 : decode cX3_readAll 39 = .ok (.ifCond .eq 49, 3) := by decide +kernel
theorem dX3_readAll_42 : decode cX3_readAll 42 = .ok (.aload_n 0, 1) := by decide +kernel
theorem dX3_readAll_43 : decode cX3_readAll 43 = .ok (.invokevirtual 49, 3) := by decide +kernel
theorem dX3_readAll_46 : decode cX3_readAll 46 = .ok (.ifCond .ne 5, 3) := by decide +kernel
theorem dX3_readAll_49 : decode cX3_readAll 49 = .ok (.iconst 0, 1) := by decide +kernel
theorem dX3_readAll_50 : decode cX3_readAll 50 = .ok (.ireturn, 1) := by decide +kernel
theorem dX3_readAll_51 : decode cX3_readAll 51 = .ok (.aload_n 0, 1) := by decide +kernel
theorem dX3_readAll_52 : decode cX3_readAll 52 = .ok (.getfield 18, 3) := by decide +kernel
theorem dX3_readAll_55 : decode cX3_readAll 55 = .ok (.iconst 3, 1) := by decide +kernel
theorem dX3_readAll_56 : decode cX3_readAll 56 = .ok (.if_icmp .eq 9, 3) := by decide +kernel
theorem dX3_readAll_59 : decode cX3_readAll 59 = .ok (.aload_n 0, 1) := by decide +kernel
theorem dX3_readAll_60 : decode cX3_readAll 60 = .ok (.iconst 1, 1) := by decide +kernel
theorem dX3_readAll_61 : decode cX3_readAll 61 = .ok (.invokevirtual 53, 3) := by decide +kernel
theorem dX3_readAll_64 : decode cX3_readAll 64 = .ok (.ireturn, 1) := by decide +kernel
theorem dX3_readAll_65 : decode cX3_readAll 65 = .ok (.aload_n 0, 1) := by decide +kernel
theorem dX3_readAll_66 : decode cX3_readAll 66 = .ok (.getfield 12, 3) := by decide +kernel
theorem dX3_readAll_69 : decode cX3_readAll 69 = .ok (.dup, 1) := by decide +kernel
theorem dX3_readAll_70 : decode cX3_readAll 70 = .ok (.getfield 57, 3) := by decide +kernel
theorem dX3_readAll_73 : decode cX3_readAll 73 = .ok (.iconst 1, 1) := by decide +kernel
theorem dX3_readAll_74 : decode cX3_readAll 74 = .ok (.iadd, 1) := by decide +kernel
theorem dX3_readAll_75 : decode cX3_readAll 75 = .ok (.putfield 57, 3) := by decide +kernel
theorem dX3_readAll_78 : decode cX3_readAll 78 = .ok (.aload_n 0, 1) := by decide +kernel
theorem dX3_readAll_79 : decode cX3_readAll 79 = .ok (.invokevirtual 44, 3) := by decide +kernel
theorem dX3_readAll_82 : decode cX3_readAll 82 = .ok (.iinc 1 1, 3) := by decide +kernel
theorem dX3_readAll_85 : decode cX3_readAll 85 = .ok (.goto (-57), 3) := by decide +kernel
theorem dX3_readAll_88 : decode cX3_readAll 88 = .ok (.iconst 1, 1) := by decide +kernel
theorem dX3_readAll_89 : decode cX3_readAll 89 = .ok (.ireturn, 1) := by decide +kernel
theorem dX3_readLine_0 : decode cX3_readLine 0 = .ok (.aload_n 0, 1) := by decide +kernel
theorem dX3_readLine_1 : decode cX3_readLine 1 = .ok (.getfield 12, 3) := by decide +kernel
theorem dX3_readLine_4 : decode cX3_readLine 4 = .ok (.getfield 57, 3) := by decide +kernel
theorem dX3_readLine_7 : decode cX3_readLine 7 = .ok (.ifCond .ne 8, 3) := by decide +kernel
theorem dX3_readLine_10 : decode cX3_readLine 10 = .ok (.aload_n 0, 1) := by decide +kernel
theorem dX3_readLine_11 : decode cX3_readLine 11 = .ok (.invokevirtual 60, 3) := by decide +kernel
theorem dX3_readLine_14 : decode cX3_readLine 14 = .ok (.ireturn, 1) := by decide +kernel
theorem dX3_readLine_15 : decode cX3_readLine 15 = .ok (.aload_n 0, 1) := by decide +kernel
theorem dX3_readLine_16 : decode cX3_readLine 16 = .ok (.ldc 63, 2) := by decide +kernel
theorem dX3_readLine_18 : decode cX3_readLine 18 = .ok (.invokevirtual 65, 3) := by decide +kernel
theorem dX3_readLine_21 : decode cX3_readLine 21 = .ok (.ifCond .eq 8, 3) := by decide +kernel
theorem dX3_readLine_24 : decode cX3_readLine 24 = .ok (.aload_n 0, 1) := by decide +kernel
theorem dX3_readLine_25 : decode cX3_readLine 25 = .ok (.invokevirtual 69, 3) := by decide +kernel
theorem dX3_readLine_28 : decode cX3_readLine 28 = .ok (.ireturn, 1) := by decide +kernel
theorem dX3_readLine_29 : decode cX3_readLine 29 = .ok (.aload_n 0, 1) := by decide +kernel
theorem dX3_readLine_30 : decode cX3_readLine 30 = .ok (.ldc 72, 2) := by decide +kernel
theorem dX3_readLine_32 : decode cX3_readLine 32 = .ok (.invokevirtual 65, 3) := by decide +kernel
theorem dX3_readLine_35 : decode cX3_readLine 35 = .ok (.ifCond .eq 8, 3) := by decide +kernel
theorem dX3_readLine_38 : decode cX3_readLine 38 = .ok (.aload_n 0, 1) := by decide +kernel
theorem dX3_readLine_39 : decode cX3_readLine 39 = .ok (.invokevirtual 74, 3) := by decide +kernel
theorem dX3_readLine_42 : decode cX3_readLine 42 = .ok (.ireturn, 1) := by decide +kernel
theorem dX3_readLine_43 : decode cX3_readLine 43 = .ok (.aload_n 0, 1) := by decide +kernel
theorem dX3_readLine_44 : decode cX3_readLine 44 = .ok (.ldc 77, 2) := by decide +kernel
theorem dX3_readLine_46 : decode cX3_readLine 46 = .ok (.invokevirtual 65, 3) := by decide +kernel
theorem dX3_readLine_49 : decode cX3_readLine 49 = .ok (.ifCond .eq 10, 3) := by decide +kernel
theorem dX3_readLine_52 : decode cX3_readLine 52 = .ok (.aload_n 0, 1) := by decide +kernel
theorem dX3_readLine_53 : decode cX3_readLine 53 = .ok (.invokevirtual 79, 3) := by decide +kernel
theorem dX3_readLine_56 : decode cX3_readLine 56 = .ok (.goto 8, 3) := by decide +kernel
theorem dX3_readLine_59 : decode cX3_readLine 59 = .ok (.aload_n 0, 1) := by decide +kernel
theorem dX3_readLine_60 : decode cX3_readLine 60 = .ok (.iconst 1, 1) := by decide +kernel
theorem dX3_readLine_61 : decode cX3_readLine 61 = .ok (.invokevirtual 53, 3) := by decide +kernel
theorem dX3_readLine_64 : decode cX3_readLine 64 = .ok (.ireturn, 1) := by decide +kernel
theorem dX3_readTown_0 : decode cX3_readTown 0 = .ok (.aload_n 0, 1) := by decide +kernel
theorem dX3_readTown_1 : decode cX3_readTown 1 = .ok (.ldc 82, 2) := by decide +kernel
theorem dX3_readTown_3 : decode cX3_readTown 3 = .ok (.invokevirtual 83, 3) := by decide +kernel
theorem dX3_readTown_6 : decode cX3_readTown 6 = .ok (.ifCond .eq 22, 3) := by decide +kernel
theorem dX3_readTown_9 : decode cX3_readTown 9 = .ok (.aload_n 0, 1) := by decide +kernel
theorem dX3_readTown_10 : decode cX3_readTown 10 = .ok (.ldc 86, 2) := by decide +kernel
theorem dX3_readTown_12 : decode cX3_readTown 12 = .ok (.invokevirtual 83, 3) := by decide +kernel
theorem dX3_readTown_15 : decode cX3_readTown 15 = .ok (.ifCond .eq 13, 3) := by decide +kernel
theorem dX3_readTown_18 : decode cX3_readTown 18 = .ok (.aload_n 0, 1) := by decide +kernel
theorem dX3_readTown_19 : decode cX3_readTown 19 = .ok (.iconst 2, 1) := by decide +kernel
theorem dX3_readTown_20 : decode cX3_readTown 20 = .ok (.bipush 40, 2) := by decide +kernel
theorem dX3_readTown_22 : decode cX3_readTown 22 = .ok (.invokevirtual 88, 3) := by decide +kernel
theorem dX3_readTown_25 : decode cX3_readTown 25 = .ok (.ifCond .ne 5, 3) := by decide +kernel
theorem dX3_readTown_28 : decode cX3_readTown 28 = .ok (.iconst 0, 1) := by decide +kernel
theorem dX3_readTown_29 : decode cX3_readTown 29 = .ok (.ireturn, 1) := by decide +kernel
theorem dX3_readTown_30 : decode cX3_readTown 30 = .ok (.aload_n 0, 1) := by decide +kernel
theorem dX3_readTown_31 : decode cX3_readTown 31 = .ok (.getfield 12, 3) := by decide +kernel
theorem dX3_readTown_34 : decode cX3_readTown 34 = .ok (.aload_n 0, 1) := by decide +kernel
theorem dX3_readTown_35 : decode cX3_readTown 35 = .ok (.getfield 28, 3) := by decide +kernel
theorem dX3_readTown_38 : decode cX3_readTown 38 = .ok (.putfield 92, 3) := by decide +kernel
theorem dX3_readTown_41 : decode cX3_readTown 41 = .ok (.aload_n 0, 1) := by decide +kernel
theorem dX3_readTown_42 : decode cX3_readTown 42 = .ok (.invokevirtual 44, 3) := by decide +kernel
theorem dX3_readTown_45 : decode cX3_readTown 45 = .ok (.aload_n 0, 1) := by decide +kernel
theorem dX3_readTown_46 : decode cX3_readTown 46 = .ok (.ldc 94, 2) := by decide +kernel
theorem dX3_readTown_48 : decode cX3_readTown 48 = .ok (.invokevirtual 83, 3) := by decide +kernel
theorem dX3_readTown_51 : decode cX3_readTown 51 = .ok (.ifCond .eq 13, 3) := by decide +kernel
theorem dX3_readTown_54 : decode cX3_readTown 54 = .ok (.aload_n 0, 1) := by decide +kernel
theorem dX3_readTown_55 : decode cX3_readTown 55 = .ok (.iconst 1, 1) := by decide +kernel
theorem dX3_readTown_56 : decode cX3_readTown 56 = .ok (.bipush 9, 2) := by decide +kernel
theorem dX3_readTown_58 : decode cX3_readTown 58 = .ok (.invokevirtual 88, 3) := by decide +kernel
theorem dX3_readTown_61 : decode cX3_readTown 61 = .ok (.ifCond .ne 5, 3) := by decide +kernel
theorem dX3_readTown_64 : decode cX3_readTown 64 = .ok (.iconst 0, 1) := by decide +kernel
theorem dX3_readTown_65 : decode cX3_readTown 65 = .ok (.ireturn, 1) := by decide +kernel
theorem dX3_readTown_66 : decode cX3_readTown 66 = .ok (.aload_n 0, 1) := by decide +kernel
theorem dX3_readTown_67 : decode cX3_readTown 67 = .ok (.getfield 12, 3) := by decide +kernel
theorem dX3_readTown_70 : decode cX3_readTown 70 = .ok (.aload_n 0, 1) := by decide +kernel
theorem dX3_readTown_71 : decode cX3_readTown 71 = .ok (.getfield 28, 3) := by decide +kernel
theorem dX3_readTown_74 : decode cX3_readTown 74 = .ok (.putfield 96, 3) := by decide +kernel
theorem dX3_readTown_77 : decode cX3_readTown 77 = .ok (.aload_n 0, 1) := by decide +kernel
theorem dX3_readTown_78 : decode cX3_readTown 78 = .ok (.getfield 12, 3) := by decide +kernel
theorem dX3_readTown_81 : decode cX3_readTown 81 = .ok (.iconst 1, 1) := by decide +kernel
theorem dX3_readTown_82 : decode cX3_readTown 82 = .ok (.putfield 98, 3) := by decide +kernel
theorem dX3_readTown_85 : decode cX3_readTown 85 = .ok (.aload_n 0, 1) := by decide +kernel
theorem dX3_readTown_86 : decode cX3_readTown 86 = .ok (.invokevirtual 44, 3) := by decide +kernel
theorem dX3_readTown_89 : decode cX3_readTown 89 = .ok (.iconst 1, 1) := by decide +kernel
theorem dX3_readTown_90 : decode cX3_readTown 90 = .ok (.ireturn, 1) := by decide +kernel
theorem dX3_readPerson_0 : decode cX3_readPerson 0 = .ok (.aload_n 0, 1) := by decide +kernel
theorem dX3_readPerson_1 : decode cX3_readPerson 1 = .ok (.getfield 12, 3) := by decide +kernel
theorem dX3_readPerson_4 : decode cX3_readPerson 4 = .ok (.getfield 101, 3) := by decide +kernel
theorem dX3_readPerson_7 : decode cX3_readPerson 7 = .ok (.istore_n 1, 1) := by decide +kernel
theorem dX3_readPerson_8 : decode cX3_readPerson 8 = .ok (.iload_n 1, 1) := by decide +kernel
theorem dX3_readPerson_9 : decode cX3_readPerson 9 = .ok (.bipush 8, 2) := by decide +kernel
theorem dX3_readPerson_11 : decode cX3_readPerson 11 = .ok (.if_icmp .lt 9, 3) := by decide +kernel
theorem dX3_readPerson_14 : decode cX3_readPerson 14 = .ok (.aload_n 0, 1) := by decide +kernel
theorem dX3_readPerson_15 : decode cX3_readPerson 15 = .ok (.iconst 3, 1) := by decide +kernel
theorem dX3_readPerson_16 : decode cX3_readPerson 16 = .ok (.invokevirtual 53, 3) := by decide +kernel
theorem dX3_readPerson_19 : decode cX3_readPerson 19 = .ok (.ireturn, 1) := by decide +kernel
theorem dX3_readPerson_20 : decode cX3_readPerson 20 = .ok (.aload_n 0, 1) := by decide +kernel
theorem dX3_readPerson_21 : decode cX3_readPerson 21 = .ok (.invokevirtual 44, 3) := by decide +kernel
theorem dX3_readPerson_24 : decode cX3_readPerson 24 = .ok (.aload_n 0, 1) := by decide +kernel
theorem dX3_readPerson_25 : decode cX3_readPerson 25 = .ok (.ldc 104, 2) := by decide +kernel
theorem dX3_readPerson_27 : decode cX3_readPerson 27 = .ok (.invokevirtual 83, 3) := by decide +kernel
theorem dX3_readPerson_30 : decode cX3_readPerson 30 = .ok (.ifCond .eq 13, 3) := by decide +kernel
theorem dX3_readPerson_33 : decode cX3_readPerson 33 = .ok (.aload_n 0, 1) := by decide +kernel
theorem dX3_readPerson_34 : decode cX3_readPerson 34 = .ok (.iconst 1, 1) := by decide +kernel
theorem dX3_readPerson_35 : decode cX3_readPerson 35 = .ok (.bipush 12, 2) := by decide +kernel
theorem dX3_readPerson_37 : decode cX3_readPerson 37 = .ok (.invokevirtual 88, 3) := by decide +kernel
theorem dX3_readPerson_40 : decode cX3_readPerson 40 = .ok (.ifCond .ne 5, 3) := by decide +kernel
theorem dX3_readPerson_43 : decode cX3_readPerson 43 = .ok (.iconst 0, 1) := by decide +kernel
theorem dX3_readPerson_44 : decode cX3_readPerson 44 = .ok (.ireturn, 1) := by decide +kernel
theorem dX3_readPerson_45 : decode cX3_readPerson 45 = .ok (.aload_n 0, 1) := by decide +kernel
theorem dX3_readPerson_46 : decode cX3_readPerson 46 = .ok (.getfield 12, 3) := by decide +kernel
theorem dX3_readPerson_49 : decode cX3_readPerson 49 = .ok (.getfield 106, 3) := by decide +kernel
theorem dX3_readPerson_52 : decode cX3_readPerson 52 = .ok (.iload_n 1, 1) := by decide +kernel
theorem dX3_readPerson_53 : decode cX3_readPerson 53 = .ok (.aload_n 0, 1) := by decide +kernel
theorem dX3_readPerson_54 : decode cX3_readPerson 54 = .ok (.getfield 28, 3) := by decide +kernel
theorem dX3_readPerson_57 : decode cX3_readPerson 57 = .ok (.iastore, 1) := by decide +kernel
theorem dX3_readPerson_58 : decode cX3_readPerson 58 = .ok (.aload_n 0, 1) := by decide +kernel
theorem dX3_readPerson_59 : decode cX3_readPerson 59 = .ok (.invokevirtual 44, 3) := by decide +kernel
theorem dX3_readPerson_62 : decode cX3_readPerson 62 = .ok (.aload_n 0, 1) := by decide +kernel
theorem dX3_readPerson_63 : decode cX3_readPerson 63 = .ok (.invokevirtual 109, 3) := by decide +kernel
theorem dX3_readPerson_66 : decode cX3_readPerson 66 = .ok (.istore_n 2, 1) := by decide +kernel
theorem dX3_readPerson_67 : decode cX3_readPerson 67 = .ok (.iload_n 2, 1) := by decide +kernel
theorem dX3_readPerson_68 : decode cX3_readPerson 68 = .ok (.iconst (-1), 1) := by decide +kernel
theorem dX3_readPerson_69 : decode cX3_readPerson 69 = .ok (.if_icmp .ne 9, 3) := by decide +kernel
theorem dX3_readPerson_72 : decode cX3_readPerson 72 = .ok (.aload_n 0, 1) := by decide +kernel
theorem dX3_readPerson_73 : decode cX3_readPerson 73 = .ok (.iconst 1, 1) := by decide +kernel
theorem dX3_readPerson_74 : decode cX3_readPerson 74 = .ok (.invokevirtual 53, 3) := by decide +kernel
theorem dX3_readPerson_77 : decode cX3_readPerson 77 = .ok (.ireturn, 1) := by decide +kernel
theorem dX3_readPerson_78 : decode cX3_readPerson 78 = .ok (.aload_n 0, 1) := by decide +kernel
theorem dX3_readPerson_79 : decode cX3_readPerson 79 = .ok (.getfield 12, 3) := by decide +kernel
theorem dX3_readPerson_82 : decode cX3_readPerson 82 = .ok (.getfield 113, 3) := by decide +kernel
theorem dX3_readPerson_85 : decode cX3_readPerson 85 = .ok (.iload_n 1, 1) := by decide +kernel
theorem dX3_readPerson_86 : decode cX3_readPerson 86 = .ok (.iload_n 2, 1) := by decide +kernel
theorem dX3_readPerson_87 : decode cX3_readPerson 87 = .ok (.iastore, 1) := by decide +kernel
theorem dX3_readPerson_88 : decode cX3_readPerson 88 = .ok (.aload_n 0, 1) := by decide +kernel
theorem dX3_readPerson_89 : decode cX3_readPerson 89 = .ok (.getfield 12, 3) := by decide +kernel
theorem dX3_readPerson_92 : decode cX3_readPerson 92 = .ok (.getfield 116, 3) := by decide +kernel
theorem dX3_readPerson_95 : decode cX3_readPerson 95 = .ok (.iload_n 1, 1) := by decide +kernel
theorem dX3_readPerson_96 : decode cX3_readPerson 96 = .ok (.iconst (-1), 1) := by decide +kernel
theorem dX3_readPerson_97 : decode cX3_readPerson 97 = .ok (.iastore, 1) := by decide +kernel
theorem dX3_readPerson_98 : decode cX3_readPerson 98 = .ok (.aload_n 0, 1) := by decide +kernel
theorem dX3_readPerson_99 : decode cX3_readPerson 99 = .ok (.invokevirtual 44, 3) := by decide +kernel
theorem dX3_readPerson_102 : decode cX3_readPerson 102 = .ok (.iload_n 2, 1) := by decide +kernel
theorem dX3_readPerson_103 : decode cX3_readPerson 103 = .ok (.iconst 4, 1) := by decide +kernel
theorem dX3_readPerson_104 : decode cX3_readPerson 104 = .ok (.if_icmp .ne 33, 3) := by decide +kernel
theorem dX3_readPerson_107 : decode cX3_readPerson 107 = .ok (.aload_n 0, 1) := by decide +kernel
theorem dX3_readPerson_108 : decode cX3_readPerson 108 = .ok (.iconst 0, 1) := by decide +kernel
theorem dX3_readPerson_109 : decode cX3_readPerson 109 = .ok (.iload_n 1, 1) := by decide +kernel
theorem dX3_readPerson_110 : decode cX3_readPerson 110 = .ok (.iconst 1, 1) := by decide +kernel
theorem dX3_readPerson_111 : decode cX3_readPerson 111 = .ok (.isub, 1) := by decide +kernel
theorem dX3_readPerson_112 : decode cX3_readPerson 112 = .ok (.invokevirtual 88, 3) := by decide +kernel
theorem dX3_readPerson_115 : decode cX3_readPerson 115 = .ok (.ifCond .ne 5, 3) := by decide +kernel
theorem dX3_readPerson_118 : decode cX3_readPerson 118 = .ok (.iconst 0, 1) := by decide +kernel
theorem dX3_readPerson_119 : decode cX3_readPerson 119 = .ok (.ireturn, 1) := by decide +kernel
theorem dX3_readPerson_120 : decode cX3_readPerson 120 = .ok (.aload_n 0, 1) := by decide +kernel
theorem dX3_readPerson_121 : decode cX3_readPerson 121 = .ok (.getfield 12, 3) := by decide +kernel
theorem dX3_readPerson_124 : decode cX3_readPerson 124 = .ok (.getfield 116, 3) := by decide +kernel
theorem dX3_readPerson_127 : decode cX3_readPerson 127 = .ok (.iload_n 1, 1) := by decide +kernel
theorem dX3_readPerson_128 : decode cX3_readPerson 128 = .ok (.aload_n 0, 1) := by decide +kernel
theorem dX3_readPerson_129 : decode cX3_readPerson 129 = .ok (.getfield 28, 3) := by decide +kernel
theorem dX3_readPerson_132 : decode cX3_readPerson 132 = .ok (.iastore, 1) := by decide +kernel
theorem dX3_readPerson_133 : decode cX3_readPerson 133 = .ok (.aload_n 0, 1) := by decide +kernel
theorem dX3_readPerson_134 : decode cX3_readPerson 134 = .ok (.invokevirtual 44, 3) := by decide +kernel
theorem dX3_readPerson_137 : decode cX3_readPerson 137 = .ok (.aload_n 0, 1) := by decide +kernel
theorem dX3_readPerson_138 : decode cX3_readPerson 138 = .ok (.getfield 12, 3) := by decide +kernel
theorem dX3_readPerson_141 : decode cX3_readPerson 141 = .ok (.dup, 1) := by decide +kernel
theorem dX3_readPerson_142 : decode cX3_readPerson 142 = .ok (.getfield 101, 3) := by decide +kernel
theorem dX3_readPerson_145 : decode cX3_readPerson 145 = .ok (.iconst 1, 1) := by decide +kernel
theorem dX3_readPerson_146 : decode cX3_readPerson 146 = .ok (.iadd, 1) := by decide +kernel
theorem dX3_readPerson_147 : decode cX3_readPerson 147 = .ok (.putfield 101, 3) := by decide +kernel
theorem dX3_readPerson_150 : decode cX3_readPerson 150 = .ok (.iconst 1, 1) := by decide +kernel
theorem dX3_readPerson_151 : decode cX3_readPerson 151 = .ok (.ireturn, 1) := by decide +kernel
theorem dX3_kindTold_0 : decode cX3_kindTold 0 = .ok (.aload_n 0, 1) := by decide +kernel
theorem dX3_kindTold_1 : decode cX3_kindTold 1 = .ok (.ldc 119, 2) := by decide +kernel
theorem dX3_kindTold_3 : decode cX3_kindTold 3 = .ok (.invokevirtual 65, 3) := by decide +kernel
theorem dX3_kindTold_6 : decode cX3_kindTold 6 = .ok (.ifCond .eq 5, 3) := by decide +kernel
theorem dX3_kindTold_9 : decode cX3_kindTold 9 = .ok (.iconst 0, 1) := by decide +kernel
theorem dX3_kindTold_10 : decode cX3_kindTold 10 = .ok (.ireturn, 1) := by decide +kernel
theorem dX3_kindTold_11 : decode cX3_kindTold 11 = .ok (.aload_n 0, 1) := by decide +kernel
theorem dX3_kindTold_12 : decode cX3_kindTold 12 = .ok (.ldc 121, 2) := by decide +kernel
theorem dX3_kindTold_14 : decode cX3_kindTold 14 = .ok (.invokevirtual 65, 3) := by decide +kernel
theorem dX3_kindTold_17 : decode cX3_kindTold 17 = .ok (.ifCond .eq 5, 3) := by decide +kernel
theorem dX3_kindTold_20 : decode cX3_kindTold 20 = .ok (.iconst 1, 1) := by decide +kernel
theorem dX3_kindTold_21 : decode cX3_kindTold 21 = .ok (.ireturn, 1) := by decide +kernel
theorem dX3_kindTold_22 : decode cX3_kindTold 22 = .ok (.aload_n 0, 1) := by decide +kernel
theorem dX3_kindTold_23 : decode cX3_kindTold 23 = .ok (.ldc 123, 2) := by decide +kernel
theorem dX3_kindTold_25 : decode cX3_kindTold 25 = .ok (.invokevirtual 65, 3) := by decide +kernel
theorem dX3_kindTold_28 : decode cX3_kindTold 28 = .ok (.ifCond .eq 5, 3) := by decide +kernel
theorem dX3_kindTold_31 : decode cX3_kindTold 31 = .ok (.iconst 2, 1) := by decide +kernel
theorem dX3_kindTold_32 : decode cX3_kindTold 32 = .ok (.ireturn, 1) := by decide +kernel
theorem dX3_kindTold_33 : decode cX3_kindTold 33 = .ok (.aload_n 0, 1) := by decide +kernel
theorem dX3_kindTold_34 : decode cX3_kindTold 34 = .ok (.ldc 125, 2) := by decide +kernel
theorem dX3_kindTold_36 : decode cX3_kindTold 36 = .ok (.invokevirtual 65, 3) := by decide +kernel
theorem dX3_kindTold_39 : decode cX3_kindTold 39 = .ok (.ifCond .eq 5, 3) := by decide +kernel
theorem dX3_kindTold_42 : decode cX3_kindTold 42 = .ok (.iconst 3, 1) := by decide +kernel
theorem dX3_kindTold_43 : decode cX3_kindTold 43 = .ok (.ireturn, 1) := by decide +kernel
theorem dX3_kindTold_44 : decode cX3_kindTold 44 = .ok (.aload_n 0, 1) := by decide +kernel
theorem dX3_kindTold_45 : decode cX3_kindTold 45 = .ok (.ldc 127, 2) := by decide +kernel
theorem dX3_kindTold_47 : decode cX3_kindTold 47 = .ok (.invokevirtual 65, 3) := by decide +kernel
theorem dX3_kindTold_50 : decode cX3_kindTold 50 = .ok (.ifCond .eq 7, 3) := by decide +kernel
theorem dX3_kindTold_53 : decode cX3_kindTold 53 = .ok (.iconst 4, 1) := by decide +kernel
theorem dX3_kindTold_54 : decode cX3_kindTold 54 = .ok (.goto 4, 3) := by decide +kernel
theorem dX3_kindTold_57 : decode cX3_kindTold 57 = .ok (.iconst (-1), 1) := by decide +kernel
theorem dX3_kindTold_58 : decode cX3_kindTold 58 = .ok (.ireturn, 1) := by decide +kernel
theorem dX3_readLetter_0 : decode cX3_readLetter 0 = .ok (.aload_n 0, 1) := by decide +kernel
theorem dX3_readLetter_1 : decode cX3_readLetter 1 = .ok (.getfield 12, 3) := by decide +kernel
theorem dX3_readLetter_4 : decode cX3_readLetter 4 = .ok (.getfield 129, 3) := by decide +kernel
theorem dX3_readLetter_7 : decode cX3_readLetter 7 = .ok (.istore_n 1, 1) := by decide +kernel
theorem dX3_readLetter_8 : decode cX3_readLetter 8 = .ok (.iload_n 1, 1) := by decide +kernel
theorem dX3_readLetter_9 : decode cX3_readLetter 9 = .ok (.bipush 24, 2) := by decide +kernel
theorem dX3_readLetter_11 : decode cX3_readLetter 11 = .ok (.if_icmp .lt 9, 3) := by decide +kernel
theorem dX3_readLetter_14 : decode cX3_readLetter 14 = .ok (.aload_n 0, 1) := by decide +kernel
theorem dX3_readLetter_15 : decode cX3_readLetter 15 = .ok (.iconst 3, 1) := by decide +kernel
theorem dX3_readLetter_16 : decode cX3_readLetter 16 = .ok (.invokevirtual 53, 3) := by decide +kernel
theorem dX3_readLetter_19 : decode cX3_readLetter 19 = .ok (.ireturn, 1) := by decide +kernel
theorem dX3_readLetter_20 : decode cX3_readLetter 20 = .ok (.aload_n 0, 1) := by decide +kernel
theorem dX3_readLetter_21 : decode cX3_readLetter 21 = .ok (.invokevirtual 44, 3) := by decide +kernel
theorem dX3_readLetter_24 : decode cX3_readLetter 24 = .ok (.aload_n 0, 1) := by decide +kernel
theorem dX3_readLetter_25 : decode cX3_readLetter 25 = .ok (.iconst (-1), 1) := by decide +kernel
theorem dX3_readLetter_26 : decode cX3_readLetter 26 = .ok (.invokevirtual 132, 3) := by decide +kernel
theorem dX3_readLetter_29 : decode cX3_readLetter 29 = .ok (.ifCond .ne 5, 3) := by decide +kernel
theorem dX3_readLetter_32 : decode cX3_readLetter 32 = .ok (.iconst 0, 1) := by decide +kernel
theorem dX3_readLetter_33 : decode cX3_readLetter 33 = .ok (.ireturn, 1) := by decide +kernel
theorem dX3_readLetter_34 : decode cX3_readLetter 34 = .ok (.aload_n 0, 1) := by decide +kernel
theorem dX3_readLetter_35 : decode cX3_readLetter 35 = .ok (.getfield 12, 3) := by decide +kernel
theorem dX3_readLetter_38 : decode cX3_readLetter 38 = .ok (.getfield 135, 3) := by decide +kernel
theorem dX3_readLetter_41 : decode cX3_readLetter 41 = .ok (.iload_n 1, 1) := by decide +kernel
theorem dX3_readLetter_42 : decode cX3_readLetter 42 = .ok (.aload_n 0, 1) := by decide +kernel
theorem dX3_readLetter_43 : decode cX3_readLetter 43 = .ok (.getfield 28, 3) := by decide +kernel
theorem dX3_readLetter_46 : decode cX3_readLetter 46 = .ok (.iastore, 1) := by decide +kernel
theorem dX3_readLetter_47 : decode cX3_readLetter 47 = .ok (.aload_n 0, 1) := by decide +kernel
theorem dX3_readLetter_48 : decode cX3_readLetter 48 = .ok (.invokevirtual 44, 3) := by decide +kernel
theorem dX3_readLetter_51 : decode cX3_readLetter 51 = .ok (.aload_n 0, 1) := by decide +kernel
theorem dX3_readLetter_52 : decode cX3_readLetter 52 = .ok (.ldc 138, 2) := by decide +kernel
theorem dX3_readLetter_54 : decode cX3_readLetter 54 = .ok (.invokevirtual 83, 3) := by decide +kernel
theorem dX3_readLetter_57 : decode cX3_readLetter 57 = .ok (.ifCond .eq 19, 3) := by decide +kernel
theorem dX3_readLetter_60 : decode cX3_readLetter 60 = .ok (.aload_n 0, 1) := by decide +kernel
theorem dX3_readLetter_61 : decode cX3_readLetter 61 = .ok (.aload_n 0, 1) := by decide +kernel
theorem dX3_readLetter_62 : decode cX3_readLetter 62 = .ok (.getfield 12, 3) := by decide +kernel
theorem dX3_readLetter_65 : decode cX3_readLetter 65 = .ok (.getfield 135, 3) := by decide +kernel
theorem dX3_readLetter_68 : decode cX3_readLetter 68 = .ok (.iload_n 1, 1) := by decide +kernel
theorem dX3_readLetter_69 : decode cX3_readLetter 69 = .ok (.iaload, 1) := by decide +kernel
theorem dX3_readLetter_70 : decode cX3_readLetter 70 = .ok (.invokevirtual 132, 3) := by decide +kernel
theorem dX3_readLetter_73 : decode cX3_readLetter 73 = .ok (.ifCond .ne 5, 3) := by decide +kernel
theorem dX3_readLetter_76 : decode cX3_readLetter 76 = .ok (.iconst 0, 1) := by decide +kernel
theorem dX3_readLetter_77 : decode cX3_readLetter 77 = .ok (.ireturn, 1) := by decide +kernel
theorem dX3_readLetter_78 : decode cX3_readLetter 78 = .ok (.aload_n 0, 1) := by decide +kernel
theorem dX3_readLetter_79 : decode cX3_readLetter 79 = .ok (.getfield 12, 3) := by decide +kernel
theorem dX3_readLetter_82 : decode cX3_readLetter 82 = .ok (.getfield 140, 3) := by decide +kernel
theorem dX3_readLetter_85 : decode cX3_readLetter 85 = .ok (.iload_n 1, 1) := by decide +kernel
theorem dX3_readLetter_86 : decode cX3_readLetter 86 = .ok (.aload_n 0, 1) := by decide +kernel
theorem dX3_readLetter_87 : decode cX3_readLetter 87 = .ok (.getfield 28, 3) := by decide +kernel
theorem dX3_readLetter_90 : decode cX3_readLetter 90 = .ok (.iastore, 1) := by decide +kernel
theorem dX3_readLetter_91 : decode cX3_readLetter 91 = .ok (.aload_n 0, 1) := by decide +kernel
theorem dX3_readLetter_92 : decode cX3_readLetter 92 = .ok (.invokevirtual 44, 3) := by decide +kernel
theorem dX3_readLetter_95 : decode cX3_readLetter 95 = .ok (.aload_n 0, 1) := by decide +kernel
theorem dX3_readLetter_96 : decode cX3_readLetter 96 = .ok (.ldc 142, 2) := by decide +kernel
theorem dX3_readLetter_98 : decode cX3_readLetter 98 = .ok (.invokevirtual 83, 3) := by decide +kernel
theorem dX3_readLetter_101 : decode cX3_readLetter 101 = .ok (.ifCond .eq 20, 3) := by decide +kernel
theorem dX3_readLetter_104 : decode cX3_readLetter 104 = .ok (.aload_n 0, 1) := by decide +kernel
theorem dX3_readLetter_105 : decode cX3_readLetter 105 = .ok (.iconst 0, 1) := by decide +kernel
theorem dX3_readLetter_106 : decode cX3_readLetter 106 = .ok (.aload_n 0, 1) := by decide +kernel
theorem dX3_readLetter_107 : decode cX3_readLetter 107 = .ok (.getfield 12, 3) := by decide +kernel
theorem dX3_readLetter_110 : decode cX3_readLetter 110 = .ok (.getfield 92, 3) := by decide +kernel
theorem dX3_readLetter_113 : decode cX3_readLetter 113 = .ok (.iconst 1, 1) := by decide +kernel
theorem dX3_readLetter_114 : decode cX3_readLetter 114 = .ok (.isub, 1) := by decide +kernel
theorem dX3_readLetter_115 : decode cX3_readLetter 115 = .ok (.invokevirtual 88, 3) := by decide +kernel
theorem dX3_readLetter_118 : decode cX3_readLetter 118 = .ok (.ifCond .ne 5, 3) := by decide +kernel
theorem dX3_readLetter_121 : decode cX3_readLetter 121 = .ok (.iconst 0, 1) := by decide +kernel
theorem dX3_readLetter_122 : decode cX3_readLetter 122 = .ok (.ireturn, 1) := by decide +kernel
theorem dX3_readLetter_123 : decode cX3_readLetter 123 = .ok (.aload_n 0, 1) := by decide +kernel
theorem dX3_readLetter_124 : decode cX3_readLetter 124 = .ok (.getfield 12, 3) := by decide +kernel
theorem dX3_readLetter_127 : decode cX3_readLetter 127 = .ok (.getfield 144, 3) := by decide +kernel
theorem dX3_readLetter_130 : decode cX3_readLetter 130 = .ok (.iload_n 1, 1) := by decide +kernel
theorem dX3_readLetter_131 : decode cX3_readLetter 131 = .ok (.aload_n 0, 1) := by decide +kernel
theorem dX3_readLetter_132 : decode cX3_readLetter 132 = .ok (.getfield 28, 3) := by decide +kernel
theorem dX3_readLetter_135 : decode cX3_readLetter 135 = .ok (.iastore, 1) := by decide +kernel
theorem dX3_readLetter_136 : decode cX3_readLetter 136 = .ok (.aload_n 0, 1) := by decide +kernel
theorem dX3_readLetter_137 : decode cX3_readLetter 137 = .ok (.invokevirtual 44, 3) := by decide +kernel
theorem dX3_readLetter_140 : decode cX3_readLetter 140 = .ok (.aload_n 0, 1) := by decide +kernel
theorem dX3_readLetter_141 : decode cX3_readLetter 141 = .ok (.ldc 104, 2) := by decide +kernel
theorem dX3_readLetter_143 : decode cX3_readLetter 143 = .ok (.invokevirtual 83, 3) := by decide +kernel
theorem dX3_readLetter_146 : decode cX3_readLetter 146 = .ok (.ifCond .eq 13, 3) := by decide +kernel
theorem dX3_readLetter_149 : decode cX3_readLetter 149 = .ok (.aload_n 0, 1) := by decide +kernel
theorem dX3_readLetter_150 : decode cX3_readLetter 150 = .ok (.iconst 1, 1) := by decide +kernel
theorem dX3_readLetter_151 : decode cX3_readLetter 151 = .ok (.bipush 99, 2) := by decide +kernel
theorem dX3_readLetter_153 : decode cX3_readLetter 153 = .ok (.invokevirtual 88, 3) := by decide +kernel
theorem dX3_readLetter_156 : decode cX3_readLetter 156 = .ok (.ifCond .ne 5, 3) := by decide +kernel
theorem dX3_readLetter_159 : decode cX3_readLetter 159 = .ok (.iconst 0, 1) := by decide +kernel
theorem dX3_readLetter_160 : decode cX3_readLetter 160 = .ok (.ireturn, 1) := by decide +kernel
theorem dX3_readLetter_161 : decode cX3_readLetter 161 = .ok (.aload_n 0, 1) := by decide +kernel
theorem dX3_readLetter_162 : decode cX3_readLetter 162 = .ok (.getfield 12, 3) := by decide +kernel
theorem dX3_readLetter_165 : decode cX3_readLetter 165 = .ok (.getfield 146, 3) := by decide +kernel
theorem dX3_readLetter_168 : decode cX3_readLetter 168 = .ok (.iload_n 1, 1) := by decide +kernel
theorem dX3_readLetter_169 : decode cX3_readLetter 169 = .ok (.aload_n 0, 1) := by decide +kernel
theorem dX3_readLetter_170 : decode cX3_readLetter 170 = .ok (.getfield 28, 3) := by decide +kernel
theorem dX3_readLetter_173 : decode cX3_readLetter 173 = .ok (.iastore, 1) := by decide +kernel
theorem dX3_readLetter_174 : decode cX3_readLetter 174 = .ok (.aload_n 0, 1) := by decide +kernel
theorem dX3_readLetter_175 : decode cX3_readLetter 175 = .ok (.invokevirtual 44, 3) := by decide +kernel
theorem dX3_readLetter_178 : decode cX3_readLetter 178 = .ok (.aload_n 0, 1) := by decide +kernel
theorem dX3_readLetter_179 : decode cX3_readLetter 179 = .ok (.iload_n 1, 1) := by decide +kernel
theorem dX3_readLetter_180 : decode cX3_readLetter 180 = .ok (.invokevirtual 149, 3) := by decide +kernel
theorem dX3_readLetter_183 : decode cX3_readLetter 183 = .ok (.ireturn, 1) := by decide +kernel
theorem dX3_readWishes_0 : decode cX3_readWishes 0 = .ok (.aload_n 0, 1) := by decide +kernel
theorem dX3_readWishes_1 : decode cX3_readWishes 1 = .ok (.ldc 152, 2) := by decide +kernel
theorem dX3_readWishes_3 : decode cX3_readWishes 3 = .ok (.invokevirtual 65, 3) := by decide +kernel
theorem dX3_readWishes_6 : decode cX3_readWishes 6 = .ok (.ifCond .eq 35, 3) := by decide +kernel
theorem dX3_readWishes_9 : decode cX3_readWishes 9 = .ok (.aload_n 0, 1) := by decide +kernel
theorem dX3_readWishes_10 : decode cX3_readWishes 10 = .ok (.invokevirtual 44, 3) := by decide +kernel
theorem dX3_readWishes_13 : decode cX3_readWishes 13 = .ok (.aload_n 0, 1) := by decide +kernel
theorem dX3_readWishes_14 : decode cX3_readWishes 14 = .ok (.iconst 1, 1) := by decide +kernel
theorem dX3_readWishes_15 : decode cX3_readWishes 15 = .ok (.bipush 99, 2) := by decide +kernel
theorem dX3_readWishes_17 : decode cX3_readWishes 17 = .ok (.invokevirtual 88, 3) := by decide +kernel
theorem dX3_readWishes_20 : decode cX3_readWishes 20 = .ok (.ifCond .ne 5, 3) := by decide +kernel
theorem dX3_readWishes_23 : decode cX3_readWishes 23 = .ok (.iconst 0, 1) := by decide +kernel
theorem dX3_readWishes_24 : decode cX3_readWishes 24 = .ok (.ireturn, 1) := by decide +kernel
theorem dX3_readWishes_25 : decode cX3_readWishes 25 = .ok (.aload_n 0, 1) := by decide +kernel
theorem dX3_readWishes_26 : decode cX3_readWishes 26 = .ok (.getfield 12, 3) := by decide +kernel
theorem dX3_readWishes_29 : decode cX3_readWishes 29 = .ok (.iload_n 1, 1) := by decide +kernel
theorem dX3_readWishes_30 : decode cX3_readWishes 30 = .ok (.aload_n 0, 1) := by decide +kernel
theorem dX3_readWishes_31 : decode cX3_readWishes 31 = .ok (.getfield 28, 3) := by decide +kernel
theorem dX3_readWishes_34 : decode cX3_readWishes 34 = .ok (.invokevirtual 154, 3) := by decide +kernel
theorem dX3_readWishes_37 : decode cX3_readWishes 37 = .ok (.aload_n 0, 1) := by decide +kernel
theorem dX3_readWishes_38 : decode cX3_readWishes 38 = .ok (.invokevirtual 44, 3) := by decide +kernel
theorem dX3_readWishes_41 : decode cX3_readWishes 41 = .ok (.aload_n 0, 1) := by decide +kernel
theorem dX3_readWishes_42 : decode cX3_readWishes 42 = .ok (.ldc 158, 2) := by decide +kernel
theorem dX3_readWishes_44 : decode cX3_readWishes 44 = .ok (.invokevirtual 65, 3) := by decide +kernel
theorem dX3_readWishes_47 : decode cX3_readWishes 47 = .ok (.ifCond .eq 42, 3) := by decide +kernel
theorem dX3_readWishes_50 : decode cX3_readWishes 50 = .ok (.aload_n 0, 1) := by decide +kernel
theorem dX3_readWishes_51 : decode cX3_readWishes 51 = .ok (.invokevirtual 44, 3) := by decide +kernel
theorem dX3_readWishes_54 : decode cX3_readWishes 54 = .ok (.aload_n 0, 1) := by decide +kernel
theorem dX3_readWishes_55 : decode cX3_readWishes 55 = .ok (.aload_n 0, 1) := by decide +kernel
theorem dX3_readWishes_56 : decode cX3_readWishes 56 = .ok (.getfield 12, 3) := by decide +kernel
theorem dX3_readWishes_59 : decode cX3_readWishes 59 = .ok (.getfield 140, 3) := by decide +kernel
theorem dX3_readWishes_62 : decode cX3_readWishes 62 = .ok (.iload_n 1, 1) := by decide +kernel
theorem dX3_readWishes_63 : decode cX3_readWishes 63 = .ok (.iaload, 1) := by decide +kernel
theorem dX3_readWishes_64 : decode cX3_readWishes 64 = .ok (.invokevirtual 132, 3) := by decide +kernel
theorem dX3_readWishes_67 : decode cX3_readWishes 67 = .ok (.ifCond .ne 5, 3) := by decide +kernel
theorem dX3_readWishes_70 : decode cX3_readWishes 70 = .ok (.iconst 0, 1) := by decide +kernel
theorem dX3_readWishes_71 : decode cX3_readWishes 71 = .ok (.ireturn, 1) := by decide +kernel
theorem dX3_readWishes_72 : decode cX3_readWishes 72 = .ok (.aload_n 0, 1) := by decide +kernel
theorem dX3_readWishes_73 : decode cX3_readWishes 73 = .ok (.getfield 12, 3) := by decide +kernel
theorem dX3_readWishes_76 : decode cX3_readWishes 76 = .ok (.getfield 160, 3) := by decide +kernel
theorem dX3_readWishes_79 : decode cX3_readWishes 79 = .ok (.iload_n 1, 1) := by decide +kernel
theorem dX3_readWishes_80 : decode cX3_readWishes 80 = .ok (.aload_n 0, 1) := by decide +kernel
theorem dX3_readWishes_81 : decode cX3_readWishes 81 = .ok (.getfield 28, 3) := by decide +kernel
theorem dX3_readWishes_84 : decode cX3_readWishes 84 = .ok (.iastore, 1) := by decide +kernel
theorem dX3_readWishes_85 : decode cX3_readWishes 85 = .ok (.aload_n 0, 1) := by decide +kernel
theorem dX3_readWishes_86 : decode cX3_readWishes 86 = .ok (.invokevirtual 44, 3) := by decide +kernel
theorem dX3_readWishes_89 : decode cX3_readWishes 89 = .ok (.aload_n 0, 1) := by decide +kernel
theorem dX3_readWishes_90 : decode cX3_readWishes 90 = .ok (.ldc 162, 2) := by decide +kernel
theorem dX3_readWishes_92 : decode cX3_readWishes 92 = .ok (.invokevirtual 65, 3) := by decide +kernel
theorem dX3_readWishes_95 : decode cX3_readWishes 95 = .ok (.ifCond .eq 36, 3) := by decide +kernel
theorem dX3_readWishes_98 : decode cX3_readWishes 98 = .ok (.aload_n 0, 1) := by decide +kernel
theorem dX3_readWishes_99 : decode cX3_readWishes 99 = .ok (.invokevirtual 44, 3) := by decide +kernel
theorem dX3_readWishes_102 : decode cX3_readWishes 102 = .ok (.aload_n 0, 1) := by decide +kernel
theorem dX3_readWishes_103 : decode cX3_readWishes 103 = .ok (.iconst 0, 1) := by decide +kernel
theorem dX3_readWishes_104 : decode cX3_readWishes 104 = .ok (.bipush 99, 2) := by decide +kernel
theorem dX3_readWishes_106 : decode cX3_readWishes 106 = .ok (.invokevirtual 88, 3) := by decide +kernel
theorem dX3_readWishes_109 : decode cX3_readWishes 109 = .ok (.ifCond .ne 5, 3) := by decide +kernel
theorem dX3_readWishes_112 : decode cX3_readWishes 112 = .ok (.iconst 0, 1) := by decide +kernel
theorem dX3_readWishes_113 : decode cX3_readWishes 113 = .ok (.ireturn, 1) := by decide +kernel
theorem dX3_readWishes_114 : decode cX3_readWishes 114 = .ok (.aload_n 0, 1) := by decide +kernel
theorem dX3_readWishes_115 : decode cX3_readWishes 115 = .ok (.getfield 12, 3) := by decide +kernel
theorem dX3_readWishes_118 : decode cX3_readWishes 118 = .ok (.getfield 164, 3) := by decide +kernel
theorem dX3_readWishes_121 : decode cX3_readWishes 121 = .ok (.iload_n 1, 1) := by decide +kernel
theorem dX3_readWishes_122 : decode cX3_readWishes 122 = .ok (.aload_n 0, 1) := by decide +kernel
theorem dX3_readWishes_123 : decode cX3_readWishes 123 = .ok (.getfield 28, 3) := by decide +kernel
theorem dX3_readWishes_126 : decode cX3_readWishes 126 = .ok (.iastore, 1) := by decide +kernel
theorem dX3_readWishes_127 : decode cX3_readWishes 127 = .ok (.aload_n 0, 1) := by decide +kernel
theorem dX3_readWishes_128 : decode cX3_readWishes 128 = .ok (.invokevirtual 44, 3) := by decide +kernel
theorem dX3_readWishes_131 : decode cX3_readWishes 131 = .ok (.aload_n 0, 1) := by decide +kernel
theorem dX3_readWishes_132 : decode cX3_readWishes 132 = .ok (.ldc 166, 2) := by decide +kernel
theorem dX3_readWishes_134 : decode cX3_readWishes 134 = .ok (.invokevirtual 65, 3) := by decide +kernel
theorem dX3_readWishes_137 : decode cX3_readWishes 137 = .ok (.ifCond .eq 43, 3) := by decide +kernel
theorem dX3_readWishes_140 : decode cX3_readWishes 140 = .ok (.aload_n 0, 1) := by decide +kernel
theorem dX3_readWishes_141 : decode cX3_readWishes 141 = .ok (.invokevirtual 44, 3) := by decide +kernel
theorem dX3_readWishes_144 : decode cX3_readWishes 144 = .ok (.aload_n 0, 1) := by decide +kernel
theorem dX3_readWishes_145 : decode cX3_readWishes 145 = .ok (.iconst 0, 1) := by decide +kernel
theorem dX3_readWishes_146 : decode cX3_readWishes 146 = .ok (.aload_n 0, 1) := by decide +kernel
theorem dX3_readWishes_147 : decode cX3_readWishes 147 = .ok (.getfield 12, 3) := by decide +kernel
theorem dX3_readWishes_150 : decode cX3_readWishes 150 = .ok (.getfield 92, 3) := by decide +kernel
theorem dX3_readWishes_153 : decode cX3_readWishes 153 = .ok (.iconst 1, 1) := by decide +kernel
theorem dX3_readWishes_154 : decode cX3_readWishes 154 = .ok (.isub, 1) := by decide +kernel
theorem dX3_readWishes_155 : decode cX3_readWishes 155 = .ok (.invokevirtual 88, 3) := by decide +kernel
theorem dX3_readWishes_158 : decode cX3_readWishes 158 = .ok (.ifCond .ne 5, 3) := by decide +kernel
theorem dX3_readWishes_161 : decode cX3_readWishes 161 = .ok (.iconst 0, 1) := by decide +kernel
theorem dX3_readWishes_162 : decode cX3_readWishes 162 = .ok (.ireturn, 1) := by decide +kernel
theorem dX3_readWishes_163 : decode cX3_readWishes 163 = .ok (.aload_n 0, 1) := by decide +kernel
theorem dX3_readWishes_164 : decode cX3_readWishes 164 = .ok (.getfield 12, 3) := by decide +kernel
theorem dX3_readWishes_167 : decode cX3_readWishes 167 = .ok (.getfield 168, 3) := by decide +kernel
theorem dX3_readWishes_170 : decode cX3_readWishes 170 = .ok (.iload_n 1, 1) := by decide +kernel
theorem dX3_readWishes_171 : decode cX3_readWishes 171 = .ok (.aload_n 0, 1) := by decide +kernel
theorem dX3_readWishes_172 : decode cX3_readWishes 172 = .ok (.getfield 28, 3) := by decide +kernel
theorem dX3_readWishes_175 : decode cX3_readWishes 175 = .ok (.iastore, 1) := by decide +kernel
theorem dX3_readWishes_176 : decode cX3_readWishes 176 = .ok (.aload_n 0, 1) := by decide +kernel
theorem dX3_readWishes_177 : decode cX3_readWishes 177 = .ok (.invokevirtual 44, 3) := by decide +kernel
theorem dX3_readWishes_180 : decode cX3_readWishes 180 = .ok (.aload_n 0, 1) := by decide +kernel
theorem dX3_readWishes_181 : decode cX3_readWishes 181 = .ok (.getfield 12, 3) := by decide +kernel
theorem dX3_readWishes_184 : decode cX3_readWishes 184 = .ok (.dup, 1) := by decide +kernel
theorem dX3_readWishes_185 : decode cX3_readWishes 185 = .ok (.getfield 129, 3) := by decide +kernel
theorem dX3_readWishes_188 : decode cX3_readWishes 188 = .ok (.iconst 1, 1) := by decide +kernel
theorem dX3_readWishes_189 : decode cX3_readWishes 189 = .ok (.iadd, 1) := by decide +kernel
theorem dX3_readWishes_190 : decode cX3_readWishes 190 = .ok (.putfield 129, 3) := by decide +kernel
theorem dX3_readWishes_193 : decode cX3_readWishes 193 = .ok (.iconst 1, 1) := by decide +kernel
theorem dX3_readWishes_194 : decode cX3_readWishes 194 = .ok (.ireturn, 1) := by decide +kernel
theorem dX3_readLaw_0 : decode cX3_readLaw 0 = .ok (.aload_n 0, 1) := by decide +kernel
theorem dX3_readLaw_1 : decode cX3_readLaw 1 = .ok (.getfield 12, 3) := by decide +kernel
theorem dX3_readLaw_4 : decode cX3_readLaw 4 = .ok (.getfield 170, 3) := by decide +kernel
theorem dX3_readLaw_7 : decode cX3_readLaw 7 = .ok (.ifCond .eq 9, 3) := by decide +kernel
theorem dX3_readLaw_10 : decode cX3_readLaw 10 = .ok (.aload_n 0, 1) := by decide +kernel
theorem dX3_readLaw_11 : decode cX3_readLaw 11 = .ok (.iconst 2, 1) := by decide +kernel
theorem dX3_readLaw_12 : decode cX3_readLaw 12 = .ok (.invokevirtual 53, 3) := by decide +kernel
theorem dX3_readLaw_15 : decode cX3_readLaw 15 = .ok (.ireturn, 1) := by decide +kernel
theorem dX3_readLaw_16 : decode cX3_readLaw 16 = .ok (.aload_n 0, 1) := by decide +kernel
theorem dX3_readLaw_17 : decode cX3_readLaw 17 = .ok (.getfield 12, 3) := by decide +kernel
theorem dX3_readLaw_20 : decode cX3_readLaw 20 = .ok (.iconst 1, 1) := by decide +kernel
theorem dX3_readLaw_21 : decode cX3_readLaw 21 = .ok (.putfield 170, 3) := by decide +kernel
theorem dX3_readLaw_24 : decode cX3_readLaw 24 = .ok (.aload_n 0, 1) := by decide +kernel
theorem dX3_readLaw_25 : decode cX3_readLaw 25 = .ok (.invokevirtual 44, 3) := by decide +kernel
theorem dX3_readLaw_28 : decode cX3_readLaw 28 = .ok (.aload_n 0, 1) := by decide +kernel
theorem dX3_readLaw_29 : decode cX3_readLaw 29 = .ok (.invokevirtual 174, 3) := by decide +kernel
theorem dX3_readLaw_32 : decode cX3_readLaw 32 = .ok (.istore_n 1, 1) := by decide +kernel
theorem dX3_readLaw_33 : decode cX3_readLaw 33 = .ok (.iload_n 1, 1) := by decide +kernel
theorem dX3_readLaw_34 : decode cX3_readLaw 34 = .ok (.iconst (-1), 1) := by decide +kernel
theorem dX3_readLaw_35 : decode cX3_readLaw 35 = .ok (.if_icmp .ne 9, 3) := by decide +kernel
theorem dX3_readLaw_38 : decode cX3_readLaw 38 = .ok (.aload_n 0, 1) := by decide +kernel
theorem dX3_readLaw_39 : decode cX3_readLaw 39 = .ok (.iconst 1, 1) := by decide +kernel
theorem dX3_readLaw_40 : decode cX3_readLaw 40 = .ok (.invokevirtual 53, 3) := by decide +kernel
theorem dX3_readLaw_43 : decode cX3_readLaw 43 = .ok (.ireturn, 1) := by decide +kernel
theorem dX3_readLaw_44 : decode cX3_readLaw 44 = .ok (.aload_n 0, 1) := by decide +kernel
theorem dX3_readLaw_45 : decode cX3_readLaw 45 = .ok (.getfield 12, 3) := by decide +kernel
theorem dX3_readLaw_48 : decode cX3_readLaw 48 = .ok (.iload_n 1, 1) := by decide +kernel
theorem dX3_readLaw_49 : decode cX3_readLaw 49 = .ok (.putfield 177, 3) := by decide +kernel
theorem dX3_readLaw_52 : decode cX3_readLaw 52 = .ok (.aload_n 0, 1) := by decide +kernel
theorem dX3_readLaw_53 : decode cX3_readLaw 53 = .ok (.invokevirtual 44, 3) := by decide +kernel
theorem dX3_readLaw_56 : decode cX3_readLaw 56 = .ok (.iload_n 1, 1) := by decide +kernel
theorem dX3_readLaw_57 : decode cX3_readLaw 57 = .ok (.iconst 3, 1) := by decide +kernel
theorem dX3_readLaw_58 : decode cX3_readLaw 58 = .ok (.if_icmp .ne 31, 3) := by decide +kernel
theorem dX3_readLaw_61 : decode cX3_readLaw 61 = .ok (.aload_n 0, 1) := by decide +kernel
theorem dX3_readLaw_62 : decode cX3_readLaw 62 = .ok (.iconst 0, 1) := by decide +kernel
theorem dX3_readLaw_63 : decode cX3_readLaw 63 = .ok (.sipush 9999, 3) := by decide +kernel
theorem dX3_readLaw_66 : decode cX3_readLaw 66 = .ok (.invokevirtual 88, 3) := by decide +kernel
theorem dX3_readLaw_69 : decode cX3_readLaw 69 = .ok (.ifCond .ne 5, 3) := by decide +kernel
theorem dX3_readLaw_72 : decode cX3_readLaw 72 = .ok (.iconst 0, 1) := by decide +kernel
theorem dX3_readLaw_73 : decode cX3_readLaw 73 = .ok (.ireturn, 1) := by decide +kernel
theorem dX3_readLaw_74 : decode cX3_readLaw 74 = .ok (.aload_n 0, 1) := by decide +kernel
theorem dX3_readLaw_75 : decode cX3_readLaw 75 = .ok (.getfield 12, 3) := by decide +kernel
theorem dX3_readLaw_78 : decode cX3_readLaw 78 = .ok (.aload_n 0, 1) := by decide +kernel
theorem dX3_readLaw_79 : decode cX3_readLaw 79 = .ok (.getfield 28, 3) := by decide +kernel
theorem dX3_readLaw_82 : decode cX3_readLaw 82 = .ok (.putfield 98, 3) := by decide +kernel
theorem dX3_readLaw_85 : decode cX3_readLaw 85 = .ok (.aload_n 0, 1) := by decide +kernel
theorem dX3_readLaw_86 : decode cX3_readLaw 86 = .ok (.invokevirtual 44, 3) := by decide +kernel
theorem dX3_readLaw_89 : decode cX3_readLaw 89 = .ok (.iconst 1, 1) := by decide +kernel
theorem dX3_readLaw_90 : decode cX3_readLaw 90 = .ok (.ireturn, 1) := by decide +kernel
theorem dX3_lawNamed_0 : decode cX3_lawNamed 0 = .ok (.aload_n 0, 1) := by decide +kernel
theorem dX3_lawNamed_1 : decode cX3_lawNamed 1 = .ok (.ldc 179, 2) := by decide +kernel
theorem dX3_lawNamed_3 : decode cX3_lawNamed 3 = .ok (.invokevirtual 65, 3) := by decide +kernel
theorem dX3_lawNamed_6 : decode cX3_lawNamed 6 = .ok (.ifCond .eq 5, 3) := by decide +kernel
theorem dX3_lawNamed_9 : decode cX3_lawNamed 9 = .ok (.iconst 0, 1) := by decide +kernel
theorem dX3_lawNamed_10 : decode cX3_lawNamed 10 = .ok (.ireturn, 1) := by decide +kernel
theorem dX3_lawNamed_11 : decode cX3_lawNamed 11 = .ok (.aload_n 0, 1) := by decide +kernel
theorem dX3_lawNamed_12 : decode cX3_lawNamed 12 = .ok (.ldc 181, 2) := by decide +kernel
theorem dX3_lawNamed_14 : decode cX3_lawNamed 14 = .ok (.invokevirtual 65, 3) := by decide +kernel
theorem dX3_lawNamed_17 : decode cX3_lawNamed 17 = .ok (.ifCond .eq 5, 3) := by decide +kernel
theorem dX3_lawNamed_20 : decode cX3_lawNamed 20 = .ok (.iconst 1, 1) := by decide +kernel
theorem dX3_lawNamed_21 : decode cX3_lawNamed 21 = .ok (.ireturn, 1) := by decide +kernel
theorem dX3_lawNamed_22 : decode cX3_lawNamed 22 = .ok (.aload_n 0, 1) := by decide +kernel
theorem dX3_lawNamed_23 : decode cX3_lawNamed 23 = .ok (.ldc 183, 2) := by decide +kernel
theorem dX3_lawNamed_25 : decode cX3_lawNamed 25 = .ok (.invokevirtual 65, 3) := by decide +kernel
theorem dX3_lawNamed_28 : decode cX3_lawNamed 28 = .ok (.ifCond .eq 5, 3) := by decide +kernel
theorem dX3_lawNamed_31 : decode cX3_lawNamed 31 = .ok (.iconst 2, 1) := by decide +kernel
theorem dX3_lawNamed_32 : decode cX3_lawNamed 32 = .ok (.ireturn, 1) := by decide +kernel
theorem dX3_lawNamed_33 : decode cX3_lawNamed 33 = .ok (.aload_n 0, 1) := by decide +kernel
theorem dX3_lawNamed_34 : decode cX3_lawNamed 34 = .ok (.ldc 185, 2) := by decide +kernel
theorem dX3_lawNamed_36 : decode cX3_lawNamed 36 = .ok (.invokevirtual 65, 3) := by decide +kernel
theorem dX3_lawNamed_39 : decode cX3_lawNamed 39 = .ok (.ifCond .eq 7, 3) := by decide +kernel
theorem dX3_lawNamed_42 : decode cX3_lawNamed 42 = .ok (.iconst 3, 1) := by decide +kernel
theorem dX3_lawNamed_43 : decode cX3_lawNamed 43 = .ok (.goto 4, 3) := by decide +kernel
theorem dX3_lawNamed_46 : decode cX3_lawNamed 46 = .ok (.iconst (-1), 1) := by decide +kernel
theorem dX3_lawNamed_47 : decode cX3_lawNamed 47 = .ok (.ireturn, 1) := by decide +kernel
theorem dX3_takeWord_0 : decode cX3_takeWord 0 = .ok (.aload_n 0, 1) := by decide +kernel
theorem dX3_takeWord_1 : decode cX3_takeWord 1 = .ok (.aload_n 1, 1) := by decide +kernel
theorem dX3_takeWord_2 : decode cX3_takeWord 2 = .ok (.invokevirtual 65, 3) := by decide +kernel
theorem dX3_takeWord_5 : decode cX3_takeWord 5 = .ok (.ifCond .ne 9, 3) := by decide +kernel
theorem dX3_takeWord_8 : decode cX3_takeWord 8 = .ok (.aload_n 0, 1) := by decide +kernel
theorem dX3_takeWord_9 : decode cX3_takeWord 9 = .ok (.iconst 1, 1) := by decide +kernel
theorem dX3_takeWord_10 : decode cX3_takeWord 10 = .ok (.invokevirtual 53, 3) := by decide +kernel
theorem dX3_takeWord_13 : decode cX3_takeWord 13 = .ok (.ireturn, 1) := by decide +kernel
theorem dX3_takeWord_14 : decode cX3_takeWord 14 = .ok (.aload_n 0, 1) := by decide +kernel
theorem dX3_takeWord_15 : decode cX3_takeWord 15 = .ok (.invokevirtual 44, 3) := by decide +kernel
