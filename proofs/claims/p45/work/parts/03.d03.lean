theorem dX8_needs_43 : decode cX8_needs 43 = .ok (.iaload, 1) := by decide +kernel
theorem dX8_needs_44 : decode cX8_needs 44 = .ok (.ireturn, 1) := by decide +kernel
theorem dX8_pile_0 : decode cX8_pile 0 = .ok (.aload_n 0, 1) := by decide +kernel
theorem dX8_pile_1 : decode cX8_pile 1 = .ok (.getfield 28, 3) := by decide +kernel
theorem dX8_pile_4 : decode cX8_pile 4 = .ok (.iload_n 1, 1) := by decide +kernel
theorem dX8_pile_5 : decode cX8_pile 5 = .ok (.invokevirtual 128, 3) := by decide +kernel
theorem dX8_pile_8 : decode cX8_pile 8 = .ok (.ifCond .eq 14, 3) := by decide +kernel
theorem dX8_pile_11 : decode cX8_pile 11 = .ok (.aload_n 0, 1) := by decide +kernel
theorem dX8_pile_12 : decode cX8_pile 12 = .ok (.getfield 28, 3) := by decide +kernel
theorem dX8_pile_15 : decode cX8_pile 15 = .ok (.iload_n 2, 1) := by decide +kernel
theorem dX8_pile_16 : decode cX8_pile 16 = .ok (.invokevirtual 187, 3) := by decide +kernel
theorem dX8_pile_19 : decode cX8_pile 19 = .ok (.ifCond .ne 7, 3) := by decide +kernel
theorem dX8_pile_22 : decode cX8_pile 22 = .ok (.ldc2_w 193, 3) := by decide +kernel
theorem dX8_pile_25 : decode cX8_pile 25 = .ok (.lreturn, 1) := by decide +kernel
theorem dX8_pile_26 : decode cX8_pile 26 = .ok (.aload_n 0, 1) := by decide +kernel
theorem dX8_pile_27 : decode cX8_pile 27 = .ok (.invokevirtual 153, 3) := by decide +kernel
theorem dX8_pile_30 : decode cX8_pile 30 = .ok (.pop, 1) := by decide +kernel
theorem dX8_pile_31 : decode cX8_pile 31 = .ok (.aload_n 0, 1) := by decide +kernel
theorem dX8_pile_32 : decode cX8_pile 32 = .ok (.getfield 49, 3) := by decide +kernel
theorem dX8_pile_35 : decode cX8_pile 35 = .ok (.getfield 195, 3) := by decide +kernel
theorem dX8_pile_38 : decode cX8_pile 38 = .ok (.iload_n 2, 1) := by decide +kernel
theorem dX8_pile_39 : decode cX8_pile 39 = .ok (.bipush 8, 2) := by decide +kernel
theorem dX8_pile_41 : decode cX8_pile 41 = .ok (.imul, 1) := by decide +kernel
theorem dX8_pile_42 : decode cX8_pile 42 = .ok (.iload_n 1, 1) := by decide +kernel
theorem dX8_pile_43 : decode cX8_pile 43 = .ok (.iadd, 1) := by decide +kernel
theorem dX8_pile_44 : decode cX8_pile 44 = .ok (.laload, 1) := by decide +kernel
theorem dX8_pile_45 : decode cX8_pile 45 = .ok (.lreturn, 1) := by decide +kernel
theorem dX8_idle_0 : decode cX8_idle 0 = .ok (.aload_n 0, 1) := by decide +kernel
theorem dX8_idle_1 : decode cX8_idle 1 = .ok (.getfield 28, 3) := by decide +kernel
theorem dX8_idle_4 : decode cX8_idle 4 = .ok (.iload_n 1, 1) := by decide +kernel
theorem dX8_idle_5 : decode cX8_idle 5 = .ok (.invokevirtual 128, 3) := by decide +kernel
theorem dX8_idle_8 : decode cX8_idle 8 = .ok (.ifCond .eq 14, 3) := by decide +kernel
theorem dX8_idle_11 : decode cX8_idle 11 = .ok (.aload_n 0, 1) := by decide +kernel
theorem dX8_idle_12 : decode cX8_idle 12 = .ok (.getfield 28, 3) := by decide +kernel
theorem dX8_idle_15 : decode cX8_idle 15 = .ok (.iload_n 2, 1) := by decide +kernel
theorem dX8_idle_16 : decode cX8_idle 16 = .ok (.invokevirtual 187, 3) := by decide +kernel
theorem dX8_idle_19 : decode cX8_idle 19 = .ok (.ifCond .ne 6, 3) := by decide +kernel
theorem dX8_idle_22 : decode cX8_idle 22 = .ok (.bipush (-2), 2) := by decide +kernel
theorem dX8_idle_24 : decode cX8_idle 24 = .ok (.ireturn, 1) := by decide +kernel
theorem dX8_idle_25 : decode cX8_idle 25 = .ok (.aload_n 0, 1) := by decide +kernel
theorem dX8_idle_26 : decode cX8_idle 26 = .ok (.invokevirtual 153, 3) := by decide +kernel
theorem dX8_idle_29 : decode cX8_idle 29 = .ok (.pop, 1) := by decide +kernel
theorem dX8_idle_30 : decode cX8_idle 30 = .ok (.aload_n 0, 1) := by decide +kernel
theorem dX8_idle_31 : decode cX8_idle 31 = .ok (.getfield 49, 3) := by decide +kernel
theorem dX8_idle_34 : decode cX8_idle 34 = .ok (.getfield 199, 3) := by decide +kernel
theorem dX8_idle_37 : decode cX8_idle 37 = .ok (.iload_n 2, 1) := by decide +kernel
theorem dX8_idle_38 : decode cX8_idle 38 = .ok (.bipush 8, 2) := by decide +kernel
theorem dX8_idle_40 : decode cX8_idle 40 = .ok (.imul, 1) := by decide +kernel
theorem dX8_idle_41 : decode cX8_idle 41 = .ok (.iload_n 1, 1) := by decide +kernel
theorem dX8_idle_42 : decode cX8_idle 42 = .ok (.iadd, 1) := by decide +kernel
theorem dX8_idle_43 : decode cX8_idle 43 = .ok (.iaload, 1) := by decide +kernel
theorem dX8_idle_44 : decode cX8_idle 44 = .ok (.ireturn, 1) := by decide +kernel
theorem dX8_waits_0 : decode cX8_waits 0 = .ok (.aload_n 0, 1) := by decide +kernel
theorem dX8_waits_1 : decode cX8_waits 1 = .ok (.getfield 28, 3) := by decide +kernel
theorem dX8_waits_4 : decode cX8_waits 4 = .ok (.iload_n 1, 1) := by decide +kernel
theorem dX8_waits_5 : decode cX8_waits 5 = .ok (.invokevirtual 128, 3) := by decide +kernel
theorem dX8_waits_8 : decode cX8_waits 8 = .ok (.ifCond .eq 14, 3) := by decide +kernel
theorem dX8_waits_11 : decode cX8_waits 11 = .ok (.aload_n 0, 1) := by decide +kernel
theorem dX8_waits_12 : decode cX8_waits 12 = .ok (.getfield 28, 3) := by decide +kernel
theorem dX8_waits_15 : decode cX8_waits 15 = .ok (.iload_n 2, 1) := by decide +kernel
theorem dX8_waits_16 : decode cX8_waits 16 = .ok (.invokevirtual 187, 3) := by decide +kernel
theorem dX8_waits_19 : decode cX8_waits 19 = .ok (.ifCond .ne 6, 3) := by decide +kernel
theorem dX8_waits_22 : decode cX8_waits 22 = .ok (.bipush (-2), 2) := by decide +kernel
theorem dX8_waits_24 : decode cX8_waits 24 = .ok (.ireturn, 1) := by decide +kernel
theorem dX8_waits_25 : decode cX8_waits 25 = .ok (.aload_n 0, 1) := by decide +kernel
theorem dX8_waits_26 : decode cX8_waits 26 = .ok (.invokevirtual 153, 3) := by decide +kernel
theorem dX8_waits_29 : decode cX8_waits 29 = .ok (.pop, 1) := by decide +kernel
theorem dX8_waits_30 : decode cX8_waits 30 = .ok (.aload_n 0, 1) := by decide +kernel
theorem dX8_waits_31 : decode cX8_waits 31 = .ok (.getfield 49, 3) := by decide +kernel
theorem dX8_waits_34 : decode cX8_waits 34 = .ok (.getfield 202, 3) := by decide +kernel
theorem dX8_waits_37 : decode cX8_waits 37 = .ok (.iload_n 2, 1) := by decide +kernel
theorem dX8_waits_38 : decode cX8_waits 38 = .ok (.bipush 8, 2) := by decide +kernel
theorem dX8_waits_40 : decode cX8_waits 40 = .ok (.imul, 1) := by decide +kernel
theorem dX8_waits_41 : decode cX8_waits 41 = .ok (.iload_n 1, 1) := by decide +kernel
theorem dX8_waits_42 : decode cX8_waits 42 = .ok (.iadd, 1) := by decide +kernel
theorem dX8_waits_43 : decode cX8_waits 43 = .ok (.iaload, 1) := by decide +kernel
theorem dX8_waits_44 : decode cX8_waits 44 = .ok (.ireturn, 1) := by decide +kernel
theorem dX8_top_0 : decode cX8_top 0 = .ok (.aload_n 0, 1) := by decide +kernel
theorem dX8_top_1 : decode cX8_top 1 = .ok (.getfield 28, 3) := by decide +kernel
theorem dX8_top_4 : decode cX8_top 4 = .ok (.iload_n 1, 1) := by decide +kernel
theorem dX8_top_5 : decode cX8_top 5 = .ok (.invokevirtual 128, 3) := by decide +kernel
theorem dX8_top_8 : decode cX8_top 8 = .ok (.ifCond .eq 14, 3) := by decide +kernel
theorem dX8_top_11 : decode cX8_top 11 = .ok (.aload_n 0, 1) := by decide +kernel
theorem dX8_top_12 : decode cX8_top 12 = .ok (.getfield 28, 3) := by decide +kernel
theorem dX8_top_15 : decode cX8_top 15 = .ok (.iload_n 2, 1) := by decide +kernel
theorem dX8_top_16 : decode cX8_top 16 = .ok (.invokevirtual 187, 3) := by decide +kernel
theorem dX8_top_19 : decode cX8_top 19 = .ok (.ifCond .ne 6, 3) := by decide +kernel
theorem dX8_top_22 : decode cX8_top 22 = .ok (.bipush (-2), 2) := by decide +kernel
theorem dX8_top_24 : decode cX8_top 24 = .ok (.ireturn, 1) := by decide +kernel
theorem dX8_top_25 : decode cX8_top 25 = .ok (.aload_n 0, 1) := by decide +kernel
theorem dX8_top_26 : decode cX8_top 26 = .ok (.getfield 28, 3) := by decide +kernel
theorem dX8_top_29 : decode cX8_top 29 = .ok (.getfield 178, 3) := by decide +kernel
theorem dX8_top_32 : decode cX8_top 32 = .ok (.iconst 3, 1) := by decide +kernel
theorem dX8_top_33 : decode cX8_top 33 = .ok (.if_icmp .ne 5, 3) := by decide +kernel
theorem dX8_top_36 : decode cX8_top 36 = .ok (.iconst (-1), 1) := by decide +kernel
theorem dX8_top_37 : decode cX8_top 37 = .ok (.ireturn, 1) := by decide +kernel
theorem dX8_top_38 : decode cX8_top 38 = .ok (.aload_n 0, 1) := by decide +kernel
theorem dX8_top_39 : decode cX8_top 39 = .ok (.invokevirtual 153, 3) := by decide +kernel
theorem dX8_top_42 : decode cX8_top 42 = .ok (.astore_n 3, 1) := by decide +kernel
theorem dX8_top_43 : decode cX8_top 43 = .ok (.aload_n 0, 1) := by decide +kernel
theorem dX8_top_44 : decode cX8_top 44 = .ok (.getfield 49, 3) := by decide +kernel
theorem dX8_top_47 : decode cX8_top 47 = .ok (.getfield 195, 3) := by decide +kernel
theorem dX8_top_50 : decode cX8_top 50 = .ok (.iload_n 2, 1) := by decide +kernel
theorem dX8_top_51 : decode cX8_top 51 = .ok (.bipush 8, 2) := by decide +kernel
theorem dX8_top_53 : decode cX8_top 53 = .ok (.imul, 1) := by decide +kernel
theorem dX8_top_54 : decode cX8_top 54 = .ok (.iload_n 1, 1) := by decide +kernel
theorem dX8_top_55 : decode cX8_top 55 = .ok (.iadd, 1) := by decide +kernel
theorem dX8_top_56 : decode cX8_top 56 = .ok (.laload, 1) := by decide +kernel
theorem dX8_top_57 : decode cX8_top 57 = .ok (.lstore 4, 2) := by decide +kernel
theorem dX8_top_59 : decode cX8_top 59 = .ok (.iconst (-1), 1) := by decide +kernel
theorem dX8_top_60 : decode cX8_top 60 = .ok (.istore 6, 2) := by decide +kernel
theorem dX8_top_62 : decode cX8_top 62 = .ok (.iconst 0, 1) := by decide +kernel
theorem dX8_top_63 : decode cX8_top 63 = .ok (.istore 7, 2) := by decide +kernel
theorem dX8_top_65 : decode cX8_top 65 = .ok (.iload 7, 2) := by decide +kernel
theorem dX8_top_67 : decode cX8_top 67 = .ok (.bipush 49, 2) := by decide +kernel
theorem dX8_top_69 : decode cX8_top 69 = .ok (.if_icmp .ge 48, 3) := by decide +kernel
theorem dX8_top_72 : decode cX8_top 72 = .ok (.lload 4, 2) := by decide +kernel
theorem dX8_top_74 : decode cX8_top 74 = .ok (.iload 7, 2) := by decide +kernel
theorem dX8_top_76 : decode cX8_top 76 = .ok (.lshr, 1) := by decide +kernel
theorem dX8_top_77 : decode cX8_top 77 = .ok (.lconst 1, 1) := by decide +kernel
theorem dX8_top_78 : decode cX8_top 78 = .ok (.land, 1) := by decide +kernel
theorem dX8_top_79 : decode cX8_top 79 = .ok (.lconst 0, 1) := by decide +kernel
theorem dX8_top_80 : decode cX8_top 80 = .ok (.lcmp, 1) := by decide +kernel
theorem dX8_top_81 : decode cX8_top 81 = .ok (.ifCond .eq 30, 3) := by decide +kernel
theorem dX8_top_84 : decode cX8_top 84 = .ok (.iload 6, 2) := by decide +kernel
theorem dX8_top_86 : decode cX8_top 86 = .ok (.iconst (-1), 1) := by decide +kernel
theorem dX8_top_87 : decode cX8_top 87 = .ok (.if_icmp .eq 20, 3) := by decide +kernel
theorem dX8_top_90 : decode cX8_top 90 = .ok (.aload_n 3, 1) := by decide +kernel
theorem dX8_top_91 : decode cX8_top 91 = .ok (.getfield 205, 3) := by decide +kernel
theorem dX8_top_94 : decode cX8_top 94 = .ok (.iload 7, 2) := by decide +kernel
theorem dX8_top_96 : decode cX8_top 96 = .ok (.iaload, 1) := by decide +kernel
theorem dX8_top_97 : decode cX8_top 97 = .ok (.aload_n 3, 1) := by decide +kernel
theorem dX8_top_98 : decode cX8_top 98 = .ok (.getfield 205, 3) := by decide +kernel
theorem dX8_top_101 : decode cX8_top 101 = .ok (.iload 6, 2) := by decide +kernel
theorem dX8_top_103 : decode cX8_top 103 = .ok (.iaload, 1) := by decide +kernel
theorem dX8_top_104 : decode cX8_top 104 = .ok (.if_icmp .ge 7, 3) := by decide +kernel
theorem dX8_top_107 : decode cX8_top 107 = .ok (.iload 7, 2) := by decide +kernel
theorem dX8_top_109 : decode cX8_top 109 = .ok (.istore 6, 2) := by decide +kernel
theorem dX8_top_111 : decode cX8_top 111 = .ok (.iinc 7 1, 3) := by decide +kernel
theorem dX8_top_114 : decode cX8_top 114 = .ok (.goto (-49), 3) := by decide +kernel
theorem dX8_top_117 : decode cX8_top 117 = .ok (.iload 6, 2) := by decide +kernel
theorem dX8_top_119 : decode cX8_top 119 = .ok (.ireturn, 1) := by decide +kernel
theorem dX8_under_0 : decode cX8_under 0 = .ok (.aload_n 0, 1) := by decide +kernel
theorem dX8_under_1 : decode cX8_under 1 = .ok (.getfield 28, 3) := by decide +kernel
theorem dX8_under_4 : decode cX8_under 4 = .ok (.iload_n 1, 1) := by decide +kernel
theorem dX8_under_5 : decode cX8_under 5 = .ok (.invokevirtual 141, 3) := by decide +kernel
theorem dX8_under_8 : decode cX8_under 8 = .ok (.ifCond .eq 14, 3) := by decide +kernel
theorem dX8_under_11 : decode cX8_under 11 = .ok (.aload_n 0, 1) := by decide +kernel
theorem dX8_under_12 : decode cX8_under 12 = .ok (.getfield 28, 3) := by decide +kernel
theorem dX8_under_15 : decode cX8_under 15 = .ok (.iload_n 2, 1) := by decide +kernel
theorem dX8_under_16 : decode cX8_under 16 = .ok (.invokevirtual 187, 3) := by decide +kernel
theorem dX8_under_19 : decode cX8_under 19 = .ok (.ifCond .ne 6, 3) := by decide +kernel
theorem dX8_under_22 : decode cX8_under 22 = .ok (.bipush (-2), 2) := by decide +kernel
theorem dX8_under_24 : decode cX8_under 24 = .ok (.ireturn, 1) := by decide +kernel
theorem dX8_under_25 : decode cX8_under 25 = .ok (.aload_n 0, 1) := by decide +kernel
theorem dX8_under_26 : decode cX8_under 26 = .ok (.invokevirtual 153, 3) := by decide +kernel
theorem dX8_under_29 : decode cX8_under 29 = .ok (.astore_n 3, 1) := by decide +kernel
theorem dX8_under_30 : decode cX8_under 30 = .ok (.aload_n 0, 1) := by decide +kernel
theorem dX8_under_31 : decode cX8_under 31 = .ok (.getfield 49, 3) := by decide +kernel
theorem dX8_under_34 : decode cX8_under 34 = .ok (.getfield 195, 3) := by decide +kernel
theorem dX8_under_37 : decode cX8_under 37 = .ok (.iload_n 2, 1) := by decide +kernel
theorem dX8_under_38 : decode cX8_under 38 = .ok (.bipush 8, 2) := by decide +kernel
theorem dX8_under_40 : decode cX8_under 40 = .ok (.imul, 1) := by decide +kernel
theorem dX8_under_41 : decode cX8_under 41 = .ok (.aload_n 0, 1) := by decide +kernel
theorem dX8_under_42 : decode cX8_under 42 = .ok (.getfield 28, 3) := by decide +kernel
theorem dX8_under_45 : decode cX8_under 45 = .ok (.getfield 147, 3) := by decide +kernel
theorem dX8_under_48 : decode cX8_under 48 = .ok (.iload_n 1, 1) := by decide +kernel
theorem dX8_under_49 : decode cX8_under 49 = .ok (.iaload, 1) := by decide +kernel
theorem dX8_under_50 : decode cX8_under 50 = .ok (.iadd, 1) := by decide +kernel
theorem dX8_under_51 : decode cX8_under 51 = .ok (.laload, 1) := by decide +kernel
theorem dX8_under_52 : decode cX8_under 52 = .ok (.lstore 4, 2) := by decide +kernel
theorem dX8_under_54 : decode cX8_under 54 = .ok (.aload_n 0, 1) := by decide +kernel
theorem dX8_under_55 : decode cX8_under 55 = .ok (.getfield 28, 3) := by decide +kernel
theorem dX8_under_58 : decode cX8_under 58 = .ok (.getfield 178, 3) := by decide +kernel
theorem dX8_under_61 : decode cX8_under 61 = .ok (.iconst 3, 1) := by decide +kernel
theorem dX8_under_62 : decode cX8_under 62 = .ok (.if_icmp .eq 14, 3) := by decide +kernel
theorem dX8_under_65 : decode cX8_under 65 = .ok (.lload 4, 2) := by decide +kernel
theorem dX8_under_67 : decode cX8_under 67 = .ok (.iload_n 1, 1) := by decide +kernel
theorem dX8_under_68 : decode cX8_under 68 = .ok (.lshr, 1) := by decide +kernel
theorem dX8_under_69 : decode cX8_under 69 = .ok (.lconst 1, 1) := by decide +kernel
theorem dX8_under_70 : decode cX8_under 70 = .ok (.land, 1) := by decide +kernel
theorem dX8_under_71 : decode cX8_under 71 = .ok (.lconst 0, 1) := by decide +kernel
theorem dX8_under_72 : decode cX8_under 72 = .ok (.lcmp, 1) := by decide +kernel
theorem dX8_under_73 : decode cX8_under 73 = .ok (.ifCond .ne 5, 3) := by decide +kernel
theorem dX8_under_76 : decode cX8_under 76 = .ok (.iconst (-1), 1) := by decide +kernel
theorem dX8_under_77 : decode cX8_under 77 = .ok (.ireturn, 1) := by decide +kernel
theorem dX8_under_78 : decode cX8_under 78 = .ok (.iconst 0, 1) := by decide +kernel
theorem dX8_under_79 : decode cX8_under 79 = .ok (.istore 6, 2) := by decide +kernel
theorem dX8_under_81 : decode cX8_under 81 = .ok (.iconst 0, 1) := by decide +kernel
theorem dX8_under_82 : decode cX8_under 82 = .ok (.istore 7, 2) := by decide +kernel
theorem dX8_under_84 : decode cX8_under 84 = .ok (.iload 7, 2) := by decide +kernel
theorem dX8_under_86 : decode cX8_under 86 = .ok (.bipush 49, 2) := by decide +kernel
theorem dX8_under_88 : decode cX8_under 88 = .ok (.if_icmp .ge 40, 3) := by decide +kernel
theorem dX8_under_91 : decode cX8_under 91 = .ok (.lload 4, 2) := by decide +kernel
theorem dX8_under_93 : decode cX8_under 93 = .ok (.iload 7, 2) := by decide +kernel
theorem dX8_under_95 : decode cX8_under 95 = .ok (.lshr, 1) := by decide +kernel
theorem dX8_under_96 : decode cX8_under 96 = .ok (.lconst 1, 1) := by decide +kernel
theorem dX8_under_97 : decode cX8_under 97 = .ok (.land, 1) := by decide +kernel
theorem dX8_under_98 : decode cX8_under 98 = .ok (.lconst 0, 1) := by decide +kernel
theorem dX8_under_99 : decode cX8_under 99 = .ok (.lcmp, 1) := by decide +kernel
theorem dX8_under_100 : decode cX8_under 100 = .ok (.ifCond .eq 22, 3) := by decide +kernel
theorem dX8_under_103 : decode cX8_under 103 = .ok (.aload_n 3, 1) := by decide +kernel
theorem dX8_under_104 : decode cX8_under 104 = .ok (.getfield 205, 3) := by decide +kernel
theorem dX8_under_107 : decode cX8_under 107 = .ok (.iload 7, 2) := by decide +kernel
theorem dX8_under_109 : decode cX8_under 109 = .ok (.iaload, 1) := by decide +kernel
theorem dX8_under_110 : decode cX8_under 110 = .ok (.aload_n 3, 1) := by decide +kernel
theorem dX8_under_111 : decode cX8_under 111 = .ok (.getfield 205, 3) := by decide +kernel
theorem dX8_under_114 : decode cX8_under 114 = .ok (.iload_n 1, 1) := by decide +kernel
theorem dX8_under_115 : decode cX8_under 115 = .ok (.iaload, 1) := by decide +kernel
theorem dX8_under_116 : decode cX8_under 116 = .ok (.if_icmp .ge 6, 3) := by decide +kernel
theorem dX8_under_119 : decode cX8_under 119 = .ok (.iinc 6 1, 3) := by decide +kernel
theorem dX8_under_122 : decode cX8_under 122 = .ok (.iinc 7 1, 3) := by decide +kernel
theorem dX8_under_125 : decode cX8_under 125 = .ok (.goto (-41), 3) := by decide +kernel
theorem dX8_under_128 : decode cX8_under 128 = .ok (.iload 6, 2) := by decide +kernel
theorem dX8_under_130 : decode cX8_under 130 = .ok (.ireturn, 1) := by decide +kernel
theorem dX8_heard_0 : decode cX8_heard 0 = .ok (.aload_n 0, 1) := by decide +kernel
theorem dX8_heard_1 : decode cX8_heard 1 = .ok (.getfield 28, 3) := by decide +kernel
theorem dX8_heard_4 : decode cX8_heard 4 = .ok (.iload_n 1, 1) := by decide +kernel
theorem dX8_heard_5 : decode cX8_heard 5 = .ok (.invokevirtual 128, 3) := by decide +kernel
theorem dX8_heard_8 : decode cX8_heard 8 = .ok (.ifCond .eq 19, 3) := by decide +kernel
theorem dX8_heard_11 : decode cX8_heard 11 = .ok (.aload_n 0, 1) := by decide +kernel
theorem dX8_heard_12 : decode cX8_heard 12 = .ok (.getfield 28, 3) := by decide +kernel
theorem dX8_heard_15 : decode cX8_heard 15 = .ok (.iload_n 2, 1) := by decide +kernel
theorem dX8_heard_16 : decode cX8_heard 16 = .ok (.invokevirtual 128, 3) := by decide +kernel
theorem dX8_heard_19 : decode cX8_heard 19 = .ok (.ifCond .eq 8, 3) := by decide +kernel
theorem dX8_heard_22 : decode cX8_heard 22 = .ok (.iload_n 1, 1) := by decide +kernel
theorem dX8_heard_23 : decode cX8_heard 23 = .ok (.iload_n 2, 1) := by decide +kernel
theorem dX8_heard_24 : decode cX8_heard 24 = .ok (.if_icmp .ne 6, 3) := by decide +kernel
theorem dX8_heard_27 : decode cX8_heard 27 = .ok (.bipush (-2), 2) := by decide +kernel
theorem dX8_heard_29 : decode cX8_heard 29 = .ok (.ireturn, 1) := by decide +kernel
theorem dX8_heard_30 : decode cX8_heard 30 = .ok (.aload_n 0, 1) := by decide +kernel
theorem dX8_heard_31 : decode cX8_heard 31 = .ok (.invokevirtual 153, 3) := by decide +kernel
theorem dX8_heard_34 : decode cX8_heard 34 = .ok (.getfield 208, 3) := by decide +kernel
theorem dX8_heard_37 : decode cX8_heard 37 = .ok (.iload_n 1, 1) := by decide +kernel
theorem dX8_heard_38 : decode cX8_heard 38 = .ok (.bipush 8, 2) := by decide +kernel
theorem dX8_heard_40 : decode cX8_heard 40 = .ok (.imul, 1) := by decide +kernel
theorem dX8_heard_41 : decode cX8_heard 41 = .ok (.iload_n 2, 1) := by decide +kernel
theorem dX8_heard_42 : decode cX8_heard 42 = .ok (.iadd, 1) := by decide +kernel
theorem dX8_heard_43 : decode cX8_heard 43 = .ok (.iaload, 1) := by decide +kernel
theorem dX8_heard_44 : decode cX8_heard 44 = .ok (.ireturn, 1) := by decide +kernel
theorem dX8_stuck_0 : decode cX8_stuck 0 = .ok (.aload_n 0, 1) := by decide +kernel
theorem dX8_stuck_1 : decode cX8_stuck 1 = .ok (.invokevirtual 175, 3) := by decide +kernel
theorem dX8_stuck_4 : decode cX8_stuck 4 = .ok (.ifCond .eq 8, 3) := by decide +kernel
theorem dX8_stuck_7 : decode cX8_stuck 7 = .ok (.bipush (-2), 2) := by decide +kernel
theorem dX8_stuck_9 : decode cX8_stuck 9 = .ok (.goto 10, 3) := by decide +kernel
theorem dX8_stuck_12 : decode cX8_stuck 12 = .ok (.aload_n 0, 1) := by decide +kernel
theorem dX8_stuck_13 : decode cX8_stuck 13 = .ok (.invokevirtual 153, 3) := by decide +kernel
theorem dX8_stuck_16 : decode cX8_stuck 16 = .ok (.invokevirtual 211, 3) := by decide +kernel
theorem dX8_stuck_19 : decode cX8_stuck 19 = .ok (.ireturn, 1) := by decide +kernel
theorem dX8_ring_0 : decode cX8_ring 0 = .ok (.aload_n 0, 1) := by decide +kernel
theorem dX8_ring_1 : decode cX8_ring 1 = .ok (.invokevirtual 175, 3) := by decide +kernel
theorem dX8_ring_4 : decode cX8_ring 4 = .ok (.ifCond .ne 12, 3) := by decide +kernel
theorem dX8_ring_7 : decode cX8_ring 7 = .ok (.iload_n 1, 1) := by decide +kernel
theorem dX8_ring_8 : decode cX8_ring 8 = .ok (.ifCond .lt 8, 3) := by decide +kernel
theorem dX8_ring_11 : decode cX8_ring 11 = .ok (.iload_n 1, 1) := by decide +kernel
theorem dX8_ring_12 : decode cX8_ring 12 = .ok (.iconst 1, 1) := by decide +kernel
theorem dX8_ring_13 : decode cX8_ring 13 = .ok (.if_icmp .le 6, 3) := by decide +kernel
theorem dX8_ring_16 : decode cX8_ring 16 = .ok (.bipush (-2), 2) := by decide +kernel
theorem dX8_ring_18 : decode cX8_ring 18 = .ok (.ireturn, 1) := by decide +kernel
theorem dX8_ring_19 : decode cX8_ring 19 = .ok (.aload_n 0, 1) := by decide +kernel
theorem dX8_ring_20 : decode cX8_ring 20 = .ok (.invokevirtual 153, 3) := by decide +kernel
theorem dX8_ring_23 : decode cX8_ring 23 = .ok (.astore_n 2, 1) := by decide +kernel
theorem dX8_ring_24 : decode cX8_ring 24 = .ok (.iconst (-1), 1) := by decide +kernel
theorem dX8_ring_25 : decode cX8_ring 25 = .ok (.istore_n 3, 1) := by decide +kernel
theorem dX8_ring_26 : decode cX8_ring 26 = .ok (.iconst 0, 1) := by decide +kernel
theorem dX8_ring_27 : decode cX8_ring 27 = .ok (.istore 4, 2) := by decide +kernel
theorem dX8_ring_29 : decode cX8_ring 29 = .ok (.iconst 0, 1) := by decide +kernel
theorem dX8_ring_30 : decode cX8_ring 30 = .ok (.istore 5, 2) := by decide +kernel
theorem dX8_ring_32 : decode cX8_ring 32 = .ok (.iconst 0, 1) := by decide +kernel
theorem dX8_ring_33 : decode cX8_ring 33 = .ok (.istore 6, 2) := by decide +kernel
theorem dX8_ring_35 : decode cX8_ring 35 = .ok (.iload 6, 2) := by decide +kernel
theorem dX8_ring_37 : decode cX8_ring 37 = .ok (.bipush 8, 2) := by decide +kernel
theorem dX8_ring_39 : decode cX8_ring 39 = .ok (.if_icmp .ge 58, 3) := by decide +kernel
theorem dX8_ring_42 : decode cX8_ring 42 = .ok (.iload 5, 2) := by decide +kernel
theorem dX8_ring_44 : decode cX8_ring 44 = .ok (.iload 6, 2) := by decide +kernel
theorem dX8_ring_46 : decode cX8_ring 46 = .ok (.ishr, 1) := by decide +kernel
theorem dX8_ring_47 : decode cX8_ring 47 = .ok (.iconst 1, 1) := by decide +kernel
theorem dX8_ring_48 : decode cX8_ring 48 = .ok (.iand, 1) := by decide +kernel
theorem dX8_ring_49 : decode cX8_ring 49 = .ok (.ifCond .ne 12, 3) := by decide +kernel
theorem dX8_ring_52 : decode cX8_ring 52 = .ok (.aload_n 2, 1) := by decide +kernel
theorem dX8_ring_53 : decode cX8_ring 53 = .ok (.iload 6, 2) := by decide +kernel
theorem dX8_ring_55 : decode cX8_ring 55 = .ok (.invokevirtual 215, 3) := by decide +kernel
theorem dX8_ring_58 : decode cX8_ring 58 = .ok (.goto 4, 3) := by decide +kernel
theorem dX8_ring_61 : decode cX8_ring 61 = .ok (.iconst 0, 1) := by decide +kernel
theorem dX8_ring_62 : decode cX8_ring 62 = .ok (.istore 7, 2) := by decide +kernel
theorem dX8_ring_64 : decode cX8_ring 64 = .ok (.iload 7, 2) := by decide +kernel
theorem dX8_ring_66 : decode cX8_ring 66 = .ok (.ifCond .eq 25, 3) := by decide +kernel
theorem dX8_ring_69 : decode cX8_ring 69 = .ok (.iload 5, 2) := by decide +kernel
theorem dX8_ring_71 : decode cX8_ring 71 = .ok (.iload 7, 2) := by decide +kernel
theorem dX8_ring_73 : decode cX8_ring 73 = .ok (.ior, 1) := by decide +kernel
theorem dX8_ring_74 : decode cX8_ring 74 = .ok (.istore 5, 2) := by decide +kernel
theorem dX8_ring_76 : decode cX8_ring 76 = .ok (.iload 4, 2) := by decide +kernel
theorem dX8_ring_78 : decode cX8_ring 78 = .ok (.ifCond .ne 8, 3) := by decide +kernel
theorem dX8_ring_81 : decode cX8_ring 81 = .ok (.iload 7, 2) := by decide +kernel
theorem dX8_ring_83 : decode cX8_ring 83 = .ok (.goto 4, 3) := by decide +kernel
theorem dX8_ring_86 : decode cX8_ring 86 = .ok (.iload_n 3, 1) := by decide +kernel
theorem dX8_ring_87 : decode cX8_ring 87 = .ok (.istore_n 3, 1) := by decide +kernel
theorem dX8_ring_88 : decode cX8_ring 88 = .ok (.iinc 4 1, 3) := by decide +kernel
theorem dX8_ring_91 : decode cX8_ring 91 = .ok (.iinc 6 1, 3) := by decide +kernel
theorem dX8_ring_94 : decode cX8_ring 94 = .ok (.goto (-59), 3) := by decide +kernel
theorem dX8_ring_97 : decode cX8_ring 97 = .ok (.iload_n 1, 1) := by decide +kernel
theorem dX8_ring_98 : decode cX8_ring 98 = .ok (.ifCond .ne 7, 3) := by decide +kernel
theorem dX8_ring_101 : decode cX8_ring 101 = .ok (.iload_n 3, 1) := by decide +kernel
theorem dX8_ring_102 : decode cX8_ring 102 = .ok (.goto 5, 3) := by decide +kernel
theorem dX8_ring_105 : decode cX8_ring 105 = .ok (.iload 4, 2) := by decide +kernel
theorem dX8_ring_107 : decode cX8_ring 107 = .ok (.ireturn, 1) := by decide +kernel
theorem dX8_worth_0 : decode cX8_worth 0 = .ok (.aload_n 0, 1) := by decide +kernel
theorem dX8_worth_1 : decode cX8_worth 1 = .ok (.invokevirtual 175, 3) := by decide +kernel
theorem dX8_worth_4 : decode cX8_worth 4 = .ok (.ifCond .eq 8, 3) := by decide +kernel
theorem dX8_worth_7 : decode cX8_worth 7 = .ok (.bipush (-2), 2) := by decide +kernel
theorem dX8_worth_9 : decode cX8_worth 9 = .ok (.goto 14, 3) := by decide +kernel
theorem dX8_worth_12 : decode cX8_worth 12 = .ok (.aload_n 0, 1) := by decide +kernel
theorem dX8_worth_13 : decode cX8_worth 13 = .ok (.invokevirtual 153, 3) := by decide +kernel
theorem dX8_worth_16 : decode cX8_worth 16 = .ok (.aload_n 0, 1) := by decide +kernel
theorem dX8_worth_17 : decode cX8_worth 17 = .ok (.getfield 28, 3) := by decide +kernel
theorem dX8_worth_20 : decode cX8_worth 20 = .ok (.invokevirtual 219, 3) := by decide +kernel
theorem dX8_worth_23 : decode cX8_worth 23 = .ok (.ireturn, 1) := by decide +kernel
theorem dX8_late_0 : decode cX8_late 0 = .ok (.aload_n 0, 1) := by decide +kernel
theorem dX8_late_1 : decode cX8_late 1 = .ok (.invokevirtual 175, 3) := by decide +kernel
theorem dX8_late_4 : decode cX8_late 4 = .ok (.ifCond .ne 12, 3) := by decide +kernel
theorem dX8_late_7 : decode cX8_late 7 = .ok (.iload_n 1, 1) := by decide +kernel
theorem dX8_late_8 : decode cX8_late 8 = .ok (.ifCond .lt 8, 3) := by decide +kernel
theorem dX8_late_11 : decode cX8_late 11 = .ok (.iload_n 1, 1) := by decide +kernel
theorem dX8_late_12 : decode cX8_late 12 = .ok (.iconst 1, 1) := by decide +kernel
theorem dX8_late_13 : decode cX8_late 13 = .ok (.if_icmp .le 6, 3) := by decide +kernel
theorem dX8_late_16 : decode cX8_late 16 = .ok (.bipush (-2), 2) := by decide +kernel
theorem dX8_late_18 : decode cX8_late 18 = .ok (.ireturn, 1) := by decide +kernel
theorem dX8_late_19 : decode cX8_late 19 = .ok (.aload_n 0, 1) := by decide +kernel
theorem dX8_late_20 : decode cX8_late 20 = .ok (.invokevirtual 153, 3) := by decide +kernel
theorem dX8_late_23 : decode cX8_late 23 = .ok (.astore_n 2, 1) := by decide +kernel
theorem dX8_late_24 : decode cX8_late 24 = .ok (.iload_n 1, 1) := by decide +kernel
theorem dX8_late_25 : decode cX8_late 25 = .ok (.ifCond .ne 12, 3) := by decide +kernel
theorem dX8_late_28 : decode cX8_late 28 = .ok (.aload_n 2, 1) := by decide +kernel
theorem dX8_late_29 : decode cX8_late 29 = .ok (.aload_n 0, 1) := by decide +kernel
theorem dX8_late_30 : decode cX8_late 30 = .ok (.getfield 28, 3) := by decide +kernel
theorem dX8_late_33 : decode cX8_late 33 = .ok (.invokevirtual 223, 3) := by decide +kernel
theorem dX8_late_36 : decode cX8_late 36 = .ok (.ireturn, 1) := by decide +kernel
theorem dX8_late_37 : decode cX8_late 37 = .ok (.iconst 0, 1) := by decide +kernel
theorem dX8_late_38 : decode cX8_late 38 = .ok (.istore_n 3, 1) := by decide +kernel
theorem dX8_late_39 : decode cX8_late 39 = .ok (.iload_n 3, 1) := by decide +kernel
theorem dX8_late_40 : decode cX8_late 40 = .ok (.aload_n 0, 1) := by decide +kernel
theorem dX8_late_41 : decode cX8_late 41 = .ok (.getfield 28, 3) := by decide +kernel
theorem dX8_late_44 : decode cX8_late 44 = .ok (.getfield 226, 3) := by decide +kernel
theorem dX8_late_47 : decode cX8_late 47 = .ok (.if_icmp .ge 23, 3) := by decide +kernel
theorem dX8_late_50 : decode cX8_late 50 = .ok (.aload_n 2, 1) := by decide +kernel
theorem dX8_late_51 : decode cX8_late 51 = .ok (.aload_n 0, 1) := by decide +kernel
theorem dX8_late_52 : decode cX8_late 52 = .ok (.getfield 28, 3) := by decide +kernel
theorem dX8_late_55 : decode cX8_late 55 = .ok (.iload_n 3, 1) := by decide +kernel
theorem dX8_late_56 : decode cX8_late 56 = .ok (.invokevirtual 229, 3) := by decide +kernel
theorem dX8_late_59 : decode cX8_late 59 = .ok (.ifCond .ne 5, 3) := by decide +kernel
theorem dX8_late_62 : decode cX8_late 62 = .ok (.iload_n 3, 1) := by decide +kernel
theorem dX8_late_63 : decode cX8_late 63 = .ok (.ireturn, 1) := by decide +kernel
theorem dX8_late_64 : decode cX8_late 64 = .ok (.iinc 3 1, 3) := by decide +kernel
theorem dX8_late_67 : decode cX8_late 67 = .ok (.goto (-28), 3) := by decide +kernel
theorem dX8_late_70 : decode cX8_late 70 = .ok (.iconst (-1), 1) := by decide +kernel
theorem dX8_late_71 : decode cX8_late 71 = .ok (.ireturn, 1) := by decide +kernel
theorem dX8_sum_0 : decode cX8_sum 0 = .ok (.aload_n 0, 1) := by decide +kernel
theorem dX8_sum_1 : decode cX8_sum 1 = .ok (.invokevirtual 175, 3) := by decide +kernel
theorem dX8_sum_4 : decode cX8_sum 4 = .ok (.ifCond .ne 12, 3) := by decide +kernel
theorem dX8_sum_7 : decode cX8_sum 7 = .ok (.iload_n 1, 1) := by decide +kernel
theorem dX8_sum_8 : decode cX8_sum 8 = .ok (.ifCond .lt 8, 3) := by decide +kernel
theorem dX8_sum_11 : decode cX8_sum 11 = .ok (.iload_n 1, 1) := by decide +kernel
theorem dX8_sum_12 : decode cX8_sum 12 = .ok (.iconst 2, 1) := by decide +kernel
theorem dX8_sum_13 : decode cX8_sum 13 = .ok (.if_icmp .le 6, 3) := by decide +kernel
theorem dX8_sum_16 : decode cX8_sum 16 = .ok (.bipush (-2), 2) := by decide +kernel
theorem dX8_sum_18 : decode cX8_sum 18 = .ok (.ireturn, 1) := by decide +kernel
theorem dX8_sum_19 : decode cX8_sum 19 = .ok (.aload_n 0, 1) := by decide +kernel
theorem dX8_sum_20 : decode cX8_sum 20 = .ok (.invokevirtual 153, 3) := by decide +kernel
theorem dX8_sum_23 : decode cX8_sum 23 = .ok (.astore_n 2, 1) := by decide +kernel
theorem dX8_sum_24 : decode cX8_sum 24 = .ok (.iload_n 1, 1) := by decide +kernel
theorem dX8_sum_25 : decode cX8_sum 25 = .ok (.ifCond .ne 12, 3) := by decide +kernel
theorem dX8_sum_28 : decode cX8_sum 28 = .ok (.aload_n 2, 1) := by decide +kernel
theorem dX8_sum_29 : decode cX8_sum 29 = .ok (.aload_n 0, 1) := by decide +kernel
theorem dX8_sum_30 : decode cX8_sum 30 = .ok (.getfield 28, 3) := by decide +kernel
theorem dX8_sum_33 : decode cX8_sum 33 = .ok (.invokevirtual 233, 3) := by decide +kernel
theorem dX8_sum_36 : decode cX8_sum 36 = .ok (.ireturn, 1) := by decide +kernel
theorem dX8_sum_37 : decode cX8_sum 37 = .ok (.iconst 0, 1) := by decide +kernel
theorem dX8_sum_38 : decode cX8_sum 38 = .ok (.istore_n 3, 1) := by decide +kernel
theorem dX8_sum_39 : decode cX8_sum 39 = .ok (.iconst (-1), 1) := by decide +kernel
theorem dX8_sum_40 : decode cX8_sum 40 = .ok (.istore 4, 2) := by decide +kernel
theorem dX8_sum_42 : decode cX8_sum 42 = .ok (.iconst 0, 1) := by decide +kernel
theorem dX8_sum_43 : decode cX8_sum 43 = .ok (.istore 5, 2) := by decide +kernel
theorem dX8_sum_45 : decode cX8_sum 45 = .ok (.iload 5, 2) := by decide +kernel
theorem dX8_sum_47 : decode cX8_sum 47 = .ok (.aload_n 0, 1) := by decide +kernel
theorem dX8_sum_48 : decode cX8_sum 48 = .ok (.getfield 28, 3) := by decide +kernel
theorem dX8_sum_51 : decode cX8_sum 51 = .ok (.getfield 226, 3) := by decide +kernel
theorem dX8_sum_54 : decode cX8_sum 54 = .ok (.if_icmp .ge 54, 3) := by decide +kernel
theorem dX8_sum_57 : decode cX8_sum 57 = .ok (.aload_n 2, 1) := by decide +kernel
theorem dX8_sum_58 : decode cX8_sum 58 = .ok (.getfield 181, 3) := by decide +kernel
theorem dX8_sum_61 : decode cX8_sum 61 = .ok (.iload 5, 2) := by decide +kernel
theorem dX8_sum_63 : decode cX8_sum 63 = .ok (.iaload, 1) := by decide +kernel
theorem dX8_sum_64 : decode cX8_sum 64 = .ok (.iconst (-1), 1) := by decide +kernel
theorem dX8_sum_65 : decode cX8_sum 65 = .ok (.if_icmp .eq 37, 3) := by decide +kernel
theorem dX8_sum_68 : decode cX8_sum 68 = .ok (.aload_n 2, 1) := by decide +kernel
theorem dX8_sum_69 : decode cX8_sum 69 = .ok (.getfield 181, 3) := by decide +kernel
theorem dX8_sum_72 : decode cX8_sum 72 = .ok (.iload 5, 2) := by decide +kernel
theorem dX8_sum_74 : decode cX8_sum 74 = .ok (.iaload, 1) := by decide +kernel
theorem dX8_sum_75 : decode cX8_sum 75 = .ok (.aload_n 0, 1) := by decide +kernel
theorem dX8_sum_76 : decode cX8_sum 76 = .ok (.getfield 28, 3) := by decide +kernel
theorem dX8_sum_79 : decode cX8_sum 79 = .ok (.getfield 150, 3) := by decide +kernel
theorem dX8_sum_82 : decode cX8_sum 82 = .ok (.iload 5, 2) := by decide +kernel
theorem dX8_sum_84 : decode cX8_sum 84 = .ok (.iaload, 1) := by decide +kernel
theorem dX8_sum_85 : decode cX8_sum 85 = .ok (.isub, 1) := by decide +kernel
theorem dX8_sum_86 : decode cX8_sum 86 = .ok (.istore 6, 2) := by decide +kernel
theorem dX8_sum_88 : decode cX8_sum 88 = .ok (.iload_n 3, 1) := by decide +kernel
theorem dX8_sum_89 : decode cX8_sum 89 = .ok (.iload 6, 2) := by decide +kernel
theorem dX8_sum_91 : decode cX8_sum 91 = .ok (.iadd, 1) := by decide +kernel
theorem dX8_sum_92 : decode cX8_sum 92 = .ok (.istore_n 3, 1) := by decide +kernel
theorem dX8_sum_93 : decode cX8_sum 93 = .ok (.iload 4, 2) := by decide +kernel
theorem dX8_sum_95 : decode cX8_sum 95 = .ok (.iload 6, 2) := by decide +kernel
theorem dX8_sum_97 : decode cX8_sum 97 = .ok (.invokestatic 236, 3) := by decide +kernel
theorem dX8_sum_100 : decode cX8_sum 100 = .ok (.istore 4, 2) := by decide +kernel
theorem dX8_sum_102 : decode cX8_sum 102 = .ok (.iinc 5 1, 3) := by decide +kernel
theorem dX8_sum_105 : decode cX8_sum 105 = .ok (.goto (-60), 3) := by decide +kernel
theorem dX8_sum_108 : decode cX8_sum 108 = .ok (.iload_n 1, 1) := by decide +kernel
theorem dX8_sum_109 : decode cX8_sum 109 = .ok (.iconst 1, 1) := by decide +kernel
theorem dX8_sum_110 : decode cX8_sum 110 = .ok (.if_icmp .ne 7, 3) := by decide +kernel
theorem dX8_sum_113 : decode cX8_sum 113 = .ok (.iload_n 3, 1) := by decide +kernel
theorem dX8_sum_114 : decode cX8_sum 114 = .ok (.goto 5, 3) := by decide +kernel
theorem dX8_sum_117 : decode cX8_sum 117 = .ok (.iload 4, 2) := by decide +kernel
theorem dX8_sum_119 : decode cX8_sum 119 = .ok (.ireturn, 1) := by decide +kernel
theorem dX8_by_0 : decode cX8_by 0 = .ok (.aload_n 0, 1) := by decide +kernel
theorem dX8_by_1 : decode cX8_by 1 = .ok (.invokevirtual 175, 3) := by decide +kernel
theorem dX8_by_4 : decode cX8_by 4 = .ok (.ifCond .ne 29, 3) := by decide +kernel
theorem dX8_by_7 : decode cX8_by 7 = .ok (.iload_n 1, 1) := by decide +kernel
theorem dX8_by_8 : decode cX8_by 8 = .ok (.ifCond .lt 25, 3) := by decide +kernel
theorem dX8_by_11 : decode cX8_by 11 = .ok (.iload_n 1, 1) := by decide +kernel
theorem dX8_by_12 : decode cX8_by 12 = .ok (.iconst 3, 1) := by decide +kernel
theorem dX8_by_13 : decode cX8_by 13 = .ok (.if_icmp .gt 20, 3) := by decide +kernel
theorem dX8_by_16 : decode cX8_by 16 = .ok (.aload_n 0, 1) := by decide +kernel
theorem dX8_by_17 : decode cX8_by 17 = .ok (.iload_n 2, 1) := by decide +kernel
theorem dX8_by_18 : decode cX8_by 18 = .ok (.invokevirtual 242, 3) := by decide +kernel
theorem dX8_by_21 : decode cX8_by 21 = .ok (.ifCond .eq 12, 3) := by decide +kernel
theorem dX8_by_24 : decode cX8_by 24 = .ok (.iload_n 3, 1) := by decide +kernel
theorem dX8_by_25 : decode cX8_by 25 = .ok (.ifCond .lt 8, 3) := by decide +kernel
theorem dX8_by_28 : decode cX8_by 28 = .ok (.iload_n 3, 1) := by decide +kernel
theorem dX8_by_29 : decode cX8_by 29 = .ok (.iconst 3, 1) := by decide +kernel
theorem dX8_by_30 : decode cX8_by 30 = .ok (.if_icmp .le 6, 3) := by decide +kernel
theorem dX8_by_33 : decode cX8_by 33 = .ok (.bipush (-2), 2) := by decide +kernel
theorem dX8_by_35 : decode cX8_by 35 = .ok (.ireturn, 1) := by decide +kernel
theorem dX8_by_36 : decode cX8_by 36 = .ok (.aload_n 0, 1) := by decide +kernel
theorem dX8_by_37 : decode cX8_by 37 = .ok (.getfield 68, 3) := by decide +kernel
theorem dX8_by_40 : decode cX8_by 40 = .ok (.aload_n 0, 1) := by decide +kernel
theorem dX8_by_41 : decode cX8_by 41 = .ok (.getfield 28, 3) := by decide +kernel
theorem dX8_by_44 : decode cX8_by 44 = .ok (.invokevirtual 245, 3) := by decide +kernel
theorem dX8_by_47 : decode cX8_by 47 = .ok (.aload_n 0, 1) := by decide +kernel
theorem dX8_by_48 : decode cX8_by 48 = .ok (.getfield 68, 3) := by decide +kernel
theorem dX8_by_51 : decode cX8_by 51 = .ok (.getfield 248, 3) := by decide +kernel
theorem dX8_by_54 : decode cX8_by 54 = .ok (.iload_n 1, 1) := by decide +kernel
theorem dX8_by_55 : decode cX8_by 55 = .ok (.putfield 178, 3) := by decide +kernel
theorem dX8_by_58 : decode cX8_by 58 = .ok (.aload_n 0, 1) := by decide +kernel
theorem dX8_by_59 : decode cX8_by 59 = .ok (.getfield 68, 3) := by decide +kernel
theorem dX8_by_62 : decode cX8_by 62 = .ok (.getfield 248, 3) := by decide +kernel
theorem dX8_by_65 : decode cX8_by 65 = .ok (.iload_n 2, 1) := by decide +kernel
theorem dX8_by_66 : decode cX8_by 66 = .ok (.putfield 249, 3) := by decide +kernel
theorem dX8_by_69 : decode cX8_by 69 = .ok (.aload_n 0, 1) := by decide +kernel
theorem dX8_by_70 : decode cX8_by 70 = .ok (.getfield 62, 3) := by decide +kernel
theorem dX8_by_73 : decode cX8_by 73 = .ok (.aload_n 0, 1) := by decide +kernel
theorem dX8_by_74 : decode cX8_by 74 = .ok (.getfield 68, 3) := by decide +kernel
theorem dX8_by_77 : decode cX8_by 77 = .ok (.invokevirtual 252, 3) := by decide +kernel
theorem dX8_by_80 : decode cX8_by 80 = .ok (.iload_n 3, 1) := by decide +kernel
theorem dX8_by_81 : decode cX8_by 81 = .ok (.tableswitch 63 0 2 #[27, 39, 51], 27) := by decide +kernel
theorem dX8_by_108 : decode cX8_by 108 = .ok (.aload_n 0, 1) := by decide +kernel
theorem dX8_by_109 : decode cX8_by 109 = .ok (.getfield 62, 3) := by decide +kernel
theorem dX8_by_112 : decode cX8_by 112 = .ok (.aload_n 0, 1) := by decide +kernel
theorem dX8_by_113 : decode cX8_by 113 = .ok (.getfield 28, 3) := by decide +kernel
theorem dX8_by_116 : decode cX8_by 116 = .ok (.invokevirtual 219, 3) := by decide +kernel
theorem dX8_by_119 : decode cX8_by 119 = .ok (.ireturn, 1) := by decide +kernel
theorem dX8_by_120 : decode cX8_by 120 = .ok (.aload_n 0, 1) := by decide +kernel
theorem dX8_by_121 : decode cX8_by 121 = .ok (.getfield 62, 3) := by decide +kernel
theorem dX8_by_124 : decode cX8_by 124 = .ok (.aload_n 0, 1) := by decide +kernel
theorem dX8_by_125 : decode cX8_by 125 = .ok (.getfield 28, 3) := by decide +kernel
theorem dX8_by_128 : decode cX8_by 128 = .ok (.invokevirtual 223, 3) := by decide +kernel
theorem dX8_by_131 : decode cX8_by 131 = .ok (.ireturn, 1) := by decide +kernel
theorem dX8_by_132 : decode cX8_by 132 = .ok (.aload_n 0, 1) := by decide +kernel
theorem dX8_by_133 : decode cX8_by 133 = .ok (.getfield 62, 3) := by decide +kernel
theorem dX8_by_136 : decode cX8_by 136 = .ok (.aload_n 0, 1) := by decide +kernel
theorem dX8_by_137 : decode cX8_by 137 = .ok (.getfield 28, 3) := by decide +kernel
theorem dX8_by_140 : decode cX8_by 140 = .ok (.invokevirtual 233, 3) := by decide +kernel
theorem dX8_by_143 : decode cX8_by 143 = .ok (.ireturn, 1) := by decide +kernel
theorem dX8_by_144 : decode cX8_by 144 = .ok (.aload_n 0, 1) := by decide +kernel
theorem dX8_by_145 : decode cX8_by 145 = .ok (.getfield 62, 3) := by decide +kernel
theorem dX8_by_148 : decode cX8_by 148 = .ok (.invokevirtual 211, 3) := by decide +kernel
theorem dX8_by_151 : decode cX8_by 151 = .ok (.invokestatic 256, 3) := by decide +kernel
theorem dX8_by_154 : decode cX8_by 154 = .ok (.ireturn, 1) := by decide +kernel
theorem dX8_best_0 : decode cX8_best 0 = .ok (.aload_n 0, 1) := by decide +kernel
theorem dX8_best_1 : decode cX8_best 1 = .ok (.invokevirtual 175, 3) := by decide +kernel
theorem dX8_best_4 : decode cX8_best 4 = .ok (.ifCond .eq 6, 3) := by decide +kernel
theorem dX8_best_7 : decode cX8_best 7 = .ok (.bipush (-2), 2) := by decide +kernel
theorem dX8_best_9 : decode cX8_best 9 = .ok (.ireturn, 1) := by decide +kernel
theorem dX8_best_10 : decode cX8_best 10 = .ok (.aload_n 0, 1) := by decide +kernel
theorem dX8_best_11 : decode cX8_best 11 = .ok (.getfield 68, 3) := by decide +kernel
theorem dX8_best_14 : decode cX8_best 14 = .ok (.aload_n 0, 1) := by decide +kernel
theorem dX8_best_15 : decode cX8_best 15 = .ok (.getfield 28, 3) := by decide +kernel
theorem dX8_best_18 : decode cX8_best 18 = .ok (.invokevirtual 245, 3) := by decide +kernel
theorem dX8_best_21 : decode cX8_best 21 = .ok (.iconst (-1), 1) := by decide +kernel
theorem dX8_best_22 : decode cX8_best 22 = .ok (.istore_n 1, 1) := by decide +kernel
theorem dX8_best_23 : decode cX8_best 23 = .ok (.iconst 0, 1) := by decide +kernel
theorem dX8_best_24 : decode cX8_best 24 = .ok (.istore_n 2, 1) := by decide +kernel
theorem dX8_best_25 : decode cX8_best 25 = .ok (.iconst 0, 1) := by decide +kernel
theorem dX8_best_26 : decode cX8_best 26 = .ok (.istore_n 3, 1) := by decide +kernel
theorem dX8_best_27 : decode cX8_best 27 = .ok (.iload_n 3, 1) := by decide +kernel
theorem dX8_best_28 : decode cX8_best 28 = .ok (.iconst 2, 1) := by decide +kernel
theorem dX8_best_29 : decode cX8_best 29 = .ok (.if_icmp .gt 60, 3) := by decide +kernel
theorem dX8_best_32 : decode cX8_best 32 = .ok (.aload_n 0, 1) := by decide +kernel
theorem dX8_best_33 : decode cX8_best 33 = .ok (.getfield 68, 3) := by decide +kernel
theorem dX8_best_36 : decode cX8_best 36 = .ok (.getfield 248, 3) := by decide +kernel
theorem dX8_best_39 : decode cX8_best 39 = .ok (.iload_n 3, 1) := by decide +kernel
theorem dX8_best_40 : decode cX8_best 40 = .ok (.putfield 178, 3) := by decide +kernel
theorem dX8_best_43 : decode cX8_best 43 = .ok (.aload_n 0, 1) := by decide +kernel
theorem dX8_best_44 : decode cX8_best 44 = .ok (.getfield 62, 3) := by decide +kernel
theorem dX8_best_47 : decode cX8_best 47 = .ok (.aload_n 0, 1) := by decide +kernel
theorem dX8_best_48 : decode cX8_best 48 = .ok (.getfield 68, 3) := by decide +kernel
theorem dX8_best_51 : decode cX8_best 51 = .ok (.invokevirtual 252, 3) := by decide +kernel
theorem dX8_best_54 : decode cX8_best 54 = .ok (.aload_n 0, 1) := by decide +kernel
theorem dX8_best_55 : decode cX8_best 55 = .ok (.getfield 62, 3) := by decide +kernel
theorem dX8_best_58 : decode cX8_best 58 = .ok (.aload_n 0, 1) := by decide +kernel
theorem dX8_best_59 : decode cX8_best 59 = .ok (.getfield 28, 3) := by decide +kernel
theorem dX8_best_62 : decode cX8_best 62 = .ok (.invokevirtual 219, 3) := by decide +kernel
theorem dX8_best_65 : decode cX8_best 65 = .ok (.istore 4, 2) := by decide +kernel
theorem dX8_best_67 : decode cX8_best 67 = .ok (.iload_n 1, 1) := by decide +kernel
theorem dX8_best_68 : decode cX8_best 68 = .ok (.iconst (-1), 1) := by decide +kernel
theorem dX8_best_69 : decode cX8_best 69 = .ok (.if_icmp .eq 9, 3) := by decide +kernel
theorem dX8_best_72 : decode cX8_best 72 = .ok (.iload 4, 2) := by decide +kernel
theorem dX8_best_74 : decode cX8_best 74 = .ok (.iload_n 2, 1) := by decide +kernel
theorem dX8_best_75 : decode cX8_best 75 = .ok (.if_icmp .le 8, 3) := by decide +kernel
theorem dX8_best_78 : decode cX8_best 78 = .ok (.iload_n 3, 1) := by decide +kernel
theorem dX8_best_79 : decode cX8_best 79 = .ok (.istore_n 1, 1) := by decide +kernel
theorem dX8_best_80 : decode cX8_best 80 = .ok (.iload 4, 2) := by decide +kernel
theorem dX8_best_82 : decode cX8_best 82 = .ok (.istore_n 2, 1) := by decide +kernel
theorem dX8_best_83 : decode cX8_best 83 = .ok (.iinc 3 1, 3) := by decide +kernel
theorem dX8_best_86 : decode cX8_best 86 = .ok (.goto (-59), 3) := by decide +kernel
theorem dX8_best_89 : decode cX8_best 89 = .ok (.iload_n 1, 1) := by decide +kernel
theorem dX8_best_90 : decode cX8_best 90 = .ok (.ireturn, 1) := by decide +kernel
theorem dX8_order_0 : decode cX8_order 0 = .ok (.aload_n 0, 1) := by decide +kernel
theorem dX8_order_1 : decode cX8_order 1 = .ok (.iload_n 1, 1) := by decide +kernel
theorem dX8_order_2 : decode cX8_order 2 = .ok (.iload_n 2, 1) := by decide +kernel
theorem dX8_order_3 : decode cX8_order 3 = .ok (.invokevirtual 261, 3) := by decide +kernel
theorem dX8_order_6 : decode cX8_order 6 = .ok (.istore_n 3, 1) := by decide +kernel
theorem dX8_order_7 : decode cX8_order 7 = .ok (.iload_n 3, 1) := by decide +kernel
theorem dX8_order_8 : decode cX8_order 8 = .ok (.ifCond .eq 7, 3) := by decide +kernel
theorem dX8_order_11 : decode cX8_order 11 = .ok (.iload_n 3, 1) := by decide +kernel
theorem dX8_order_12 : decode cX8_order 12 = .ok (.goto 10, 3) := by decide +kernel
theorem dX8_order_15 : decode cX8_order 15 = .ok (.aload_n 0, 1) := by decide +kernel
theorem dX8_order_16 : decode cX8_order 16 = .ok (.getfield 75, 3) := by decide +kernel
theorem dX8_order_19 : decode cX8_order 19 = .ok (.getfield 264, 3) := by decide +kernel
theorem dX8_order_22 : decode cX8_order 22 = .ok (.ireturn, 1) := by decide +kernel
theorem dX8_place_0 : decode cX8_place 0 = .ok (.aload_n 0, 1) := by decide +kernel
theorem dX8_place_1 : decode cX8_place 1 = .ok (.iload_n 1, 1) := by decide +kernel
theorem dX8_place_2 : decode cX8_place 2 = .ok (.iload_n 2, 1) := by decide +kernel
theorem dX8_place_3 : decode cX8_place 3 = .ok (.invokevirtual 261, 3) := by decide +kernel
theorem dX8_place_6 : decode cX8_place 6 = .ok (.istore 4, 2) := by decide +kernel
theorem dX8_place_8 : decode cX8_place 8 = .ok (.iload 4, 2) := by decide +kernel
theorem dX8_place_10 : decode cX8_place 10 = .ok (.ifCond .eq 6, 3) := by decide +kernel
theorem dX8_place_13 : decode cX8_place 13 = .ok (.iload 4, 2) := by decide +kernel
theorem dX8_place_15 : decode cX8_place 15 = .ok (.ireturn, 1) := by decide +kernel
theorem dX8_place_16 : decode cX8_place 16 = .ok (.iload_n 3, 1) := by decide +kernel
theorem dX8_place_17 : decode cX8_place 17 = .ok (.ifCond .lt 20, 3) := by decide +kernel
theorem dX8_place_20 : decode cX8_place 20 = .ok (.iload_n 3, 1) := by decide +kernel
theorem dX8_place_21 : decode cX8_place 21 = .ok (.aload_n 0, 1) := by decide +kernel
theorem dX8_place_22 : decode cX8_place 22 = .ok (.getfield 75, 3) := by decide +kernel
theorem dX8_place_25 : decode cX8_place 25 = .ok (.getfield 267, 3) := by decide +kernel
theorem dX8_place_28 : decode cX8_place 28 = .ok (.if_icmp .ge 9, 3) := by decide +kernel
theorem dX8_place_31 : decode cX8_place 31 = .ok (.iload_n 3, 1) := by decide +kernel
theorem dX8_place_32 : decode cX8_place 32 = .ok (.bipush 6, 2) := by decide +kernel
theorem dX8_place_34 : decode cX8_place 34 = .ok (.if_icmp .lt 7, 3) := by decide +kernel
theorem dX8_place_37 : decode cX8_place 37 = .ok (.iconst (-1), 1) := by decide +kernel
theorem dX8_place_38 : decode cX8_place 38 = .ok (.goto 12, 3) := by decide +kernel
theorem dX8_place_41 : decode cX8_place 41 = .ok (.aload_n 0, 1) := by decide +kernel
theorem dX8_place_42 : decode cX8_place 42 = .ok (.getfield 75, 3) := by decide +kernel
theorem dX8_place_45 : decode cX8_place 45 = .ok (.getfield 270, 3) := by decide +kernel
theorem dX8_place_48 : decode cX8_place 48 = .ok (.iload_n 3, 1) := by decide +kernel
theorem dX8_place_49 : decode cX8_place 49 = .ok (.iaload, 1) := by decide +kernel
theorem dX8_place_50 : decode cX8_place 50 = .ok (.ireturn, 1) := by decide +kernel
theorem dX8_worst_0 : decode cX8_worst 0 = .ok (.aload_n 0, 1) := by decide +kernel
theorem dX8_worst_1 : decode cX8_worst 1 = .ok (.iload_n 1, 1) := by decide +kernel
theorem dX8_worst_2 : decode cX8_worst 2 = .ok (.iload_n 2, 1) := by decide +kernel
theorem dX8_worst_3 : decode cX8_worst 3 = .ok (.invokevirtual 261, 3) := by decide +kernel
theorem dX8_worst_6 : decode cX8_worst 6 = .ok (.istore_n 3, 1) := by decide +kernel
theorem dX8_worst_7 : decode cX8_worst 7 = .ok (.iload_n 3, 1) := by decide +kernel
theorem dX8_worst_8 : decode cX8_worst 8 = .ok (.ifCond .eq 7, 3) := by decide +kernel
theorem dX8_worst_11 : decode cX8_worst 11 = .ok (.iload_n 3, 1) := by decide +kernel
theorem dX8_worst_12 : decode cX8_worst 12 = .ok (.goto 10, 3) := by decide +kernel
theorem dX8_worst_15 : decode cX8_worst 15 = .ok (.aload_n 0, 1) := by decide +kernel
theorem dX8_worst_16 : decode cX8_worst 16 = .ok (.getfield 75, 3) := by decide +kernel
theorem dX8_worst_19 : decode cX8_worst 19 = .ok (.getfield 273, 3) := by decide +kernel
theorem dX8_worst_22 : decode cX8_worst 22 = .ok (.ireturn, 1) := by decide +kernel
theorem dX8_longest_0 : decode cX8_longest 0 = .ok (.aload_n 0, 1) := by decide +kernel
theorem dX8_longest_1 : decode cX8_longest 1 = .ok (.getfield 28, 3) := by decide +kernel
theorem dX8_longest_4 : decode cX8_longest 4 = .ok (.iload_n 1, 1) := by decide +kernel
theorem dX8_longest_5 : decode cX8_longest 5 = .ok (.invokevirtual 172, 3) := by decide +kernel
theorem dX8_longest_8 : decode cX8_longest 8 = .ok (.ifCond .ne 6, 3) := by decide +kernel
theorem dX8_longest_11 : decode cX8_longest 11 = .ok (.bipush (-2), 2) := by decide +kernel
theorem dX8_longest_13 : decode cX8_longest 13 = .ok (.ireturn, 1) := by decide +kernel
theorem dX8_longest_14 : decode cX8_longest 14 = .ok (.aload_n 0, 1) := by decide +kernel
theorem dX8_longest_15 : decode cX8_longest 15 = .ok (.invokevirtual 153, 3) := by decide +kernel
theorem dX8_longest_18 : decode cX8_longest 18 = .ok (.aload_n 0, 1) := by decide +kernel
theorem dX8_longest_19 : decode cX8_longest 19 = .ok (.getfield 28, 3) := by decide +kernel
theorem dX8_longest_22 : decode cX8_longest 22 = .ok (.invokevirtual 219, 3) := by decide +kernel
theorem dX8_longest_25 : decode cX8_longest 25 = .ok (.istore_n 2, 1) := by decide +kernel
theorem dX8_longest_26 : decode cX8_longest 26 = .ok (.aload_n 0, 1) := by decide +kernel
theorem dX8_longest_27 : decode cX8_longest 27 = .ok (.getfield 68, 3) := by decide +kernel
theorem dX8_longest_30 : decode cX8_longest 30 = .ok (.aload_n 0, 1) := by decide +kernel
theorem dX8_longest_31 : decode cX8_longest 31 = .ok (.getfield 28, 3) := by decide +kernel
theorem dX8_longest_34 : decode cX8_longest 34 = .ok (.invokevirtual 245, 3) := by decide +kernel
theorem dX8_longest_37 : decode cX8_longest 37 = .ok (.bipush 99, 2) := by decide +kernel
theorem dX8_longest_39 : decode cX8_longest 39 = .ok (.istore_n 3, 1) := by decide +kernel
theorem dX8_longest_40 : decode cX8_longest 40 = .ok (.iload_n 3, 1) := by decide +kernel
theorem dX8_longest_41 : decode cX8_longest 41 = .ok (.iconst 1, 1) := by decide +kernel
theorem dX8_longest_42 : decode cX8_longest 42 = .ok (.if_icmp .lt 50, 3) := by decide +kernel
theorem dX8_longest_45 : decode cX8_longest 45 = .ok (.aload_n 0, 1) := by decide +kernel
theorem dX8_longest_46 : decode cX8_longest 46 = .ok (.getfield 68, 3) := by decide +kernel
theorem dX8_longest_49 : decode cX8_longest 49 = .ok (.getfield 248, 3) := by decide +kernel
theorem dX8_longest_52 : decode cX8_longest 52 = .ok (.getfield 160, 3) := by decide +kernel
theorem dX8_longest_55 : decode cX8_longest 55 = .ok (.iload_n 1, 1) := by decide +kernel
theorem dX8_longest_56 : decode cX8_longest 56 = .ok (.iload_n 3, 1) := by decide +kernel
theorem dX8_longest_57 : decode cX8_longest 57 = .ok (.iastore, 1) := by decide +kernel
theorem dX8_longest_58 : decode cX8_longest 58 = .ok (.aload_n 0, 1) := by decide +kernel
theorem dX8_longest_59 : decode cX8_longest 59 = .ok (.getfield 62, 3) := by decide +kernel
theorem dX8_longest_62 : decode cX8_longest 62 = .ok (.aload_n 0, 1) := by decide +kernel
theorem dX8_longest_63 : decode cX8_longest 63 = .ok (.getfield 68, 3) := by decide +kernel
theorem dX8_longest_66 : decode cX8_longest 66 = .ok (.invokevirtual 252, 3) := by decide +kernel
theorem dX8_longest_69 : decode cX8_longest 69 = .ok (.aload_n 0, 1) := by decide +kernel
theorem dX8_longest_70 : decode cX8_longest 70 = .ok (.getfield 62, 3) := by decide +kernel
theorem dX8_longest_73 : decode cX8_longest 73 = .ok (.aload_n 0, 1) := by decide +kernel
theorem dX8_longest_74 : decode cX8_longest 74 = .ok (.getfield 28, 3) := by decide +kernel
theorem dX8_longest_77 : decode cX8_longest 77 = .ok (.invokevirtual 219, 3) := by decide +kernel
theorem dX8_longest_80 : decode cX8_longest 80 = .ok (.iload_n 2, 1) := by decide +kernel
theorem dX8_longest_81 : decode cX8_longest 81 = .ok (.if_icmp .lt 5, 3) := by decide +kernel
theorem dX8_longest_84 : decode cX8_longest 84 = .ok (.iload_n 3, 1) := by decide +kernel
theorem dX8_longest_85 : decode cX8_longest 85 = .ok (.ireturn, 1) := by decide +kernel
theorem dX8_longest_86 : decode cX8_longest 86 = .ok (.iinc 3 (-1), 3) := by decide +kernel
theorem dX8_longest_89 : decode cX8_longest 89 = .ok (.goto (-49), 3) := by decide +kernel
theorem dX8_longest_92 : decode cX8_longest 92 = .ok (.iconst (-1), 1) := by decide +kernel
theorem dX8_longest_93 : decode cX8_longest 93 = .ok (.ireturn, 1) := by decide +kernel
theorem dX8_just_0 : decode cX8_just 0 = .ok (.aload_n 0, 1) := by decide +kernel
theorem dX8_just_1 : decode cX8_just 1 = .ok (.getfield 28, 3) := by decide +kernel
theorem dX8_just_4 : decode cX8_just 4 = .ok (.iload_n 1, 1) := by decide +kernel
theorem dX8_just_5 : decode cX8_just 5 = .ok (.invokevirtual 172, 3) := by decide +kernel
theorem dX8_just_8 : decode cX8_just 8 = .ok (.ifCond .eq 23, 3) := by decide +kernel
theorem dX8_just_11 : decode cX8_just 11 = .ok (.aload_n 0, 1) := by decide +kernel
theorem dX8_just_12 : decode cX8_just 12 = .ok (.getfield 28, 3) := by decide +kernel
theorem dX8_just_15 : decode cX8_just 15 = .ok (.iload_n 2, 1) := by decide +kernel
theorem dX8_just_16 : decode cX8_just 16 = .ok (.invokevirtual 187, 3) := by decide +kernel
theorem dX8_just_19 : decode cX8_just 19 = .ok (.ifCond .eq 12, 3) := by decide +kernel
theorem dX8_just_22 : decode cX8_just 22 = .ok (.iload_n 3, 1) := by decide +kernel
theorem dX8_just_23 : decode cX8_just 23 = .ok (.ifCond .lt 8, 3) := by decide +kernel
theorem dX8_just_26 : decode cX8_just 26 = .ok (.iload_n 3, 1) := by decide +kernel
theorem dX8_just_27 : decode cX8_just 27 = .ok (.iconst 1, 1) := by decide +kernel
theorem dX8_just_28 : decode cX8_just 28 = .ok (.if_icmp .le 6, 3) := by decide +kernel
theorem dX8_just_31 : decode cX8_just 31 = .ok (.bipush (-2), 2) := by decide +kernel
theorem dX8_just_33 : decode cX8_just 33 = .ok (.ireturn, 1) := by decide +kernel
theorem dX8_just_34 : decode cX8_just 34 = .ok (.aload_n 0, 1) := by decide +kernel
theorem dX8_just_35 : decode cX8_just 35 = .ok (.getfield 68, 3) := by decide +kernel
theorem dX8_just_38 : decode cX8_just 38 = .ok (.aload_n 0, 1) := by decide +kernel
theorem dX8_just_39 : decode cX8_just 39 = .ok (.getfield 28, 3) := by decide +kernel
theorem dX8_just_42 : decode cX8_just 42 = .ok (.invokevirtual 245, 3) := by decide +kernel
theorem dX8_just_45 : decode cX8_just 45 = .ok (.iconst 1, 1) := by decide +kernel
theorem dX8_just_46 : decode cX8_just 46 = .ok (.istore 4, 2) := by decide +kernel
theorem dX8_just_48 : decode cX8_just 48 = .ok (.iload 4, 2) := by decide +kernel
theorem dX8_just_50 : decode cX8_just 50 = .ok (.bipush 99, 2) := by decide +kernel
theorem dX8_just_52 : decode cX8_just 52 = .ok (.if_icmp .gt 65, 3) := by decide +kernel
theorem dX8_just_55 : decode cX8_just 55 = .ok (.iload_n 3, 1) := by decide +kernel
theorem dX8_just_56 : decode cX8_just 56 = .ok (.ifCond .ne 8, 3) := by decide +kernel
theorem dX8_just_59 : decode cX8_just 59 = .ok (.iload 4, 2) := by decide +kernel
theorem dX8_just_61 : decode cX8_just 61 = .ok (.goto 8, 3) := by decide +kernel
theorem dX8_just_64 : decode cX8_just 64 = .ok (.bipush 100, 2) := by decide +kernel
theorem dX8_just_66 : decode cX8_just 66 = .ok (.iload 4, 2) := by decide +kernel
theorem dX8_just_68 : decode cX8_just 68 = .ok (.isub, 1) := by decide +kernel
theorem dX8_just_69 : decode cX8_just 69 = .ok (.istore 5, 2) := by decide +kernel
theorem dX8_just_71 : decode cX8_just 71 = .ok (.aload_n 0, 1) := by decide +kernel
theorem dX8_just_72 : decode cX8_just 72 = .ok (.getfield 68, 3) := by decide +kernel
theorem dX8_just_75 : decode cX8_just 75 = .ok (.getfield 248, 3) := by decide +kernel
theorem dX8_just_78 : decode cX8_just 78 = .ok (.getfield 160, 3) := by decide +kernel
theorem dX8_just_81 : decode cX8_just 81 = .ok (.iload_n 1, 1) := by decide +kernel
theorem dX8_just_82 : decode cX8_just 82 = .ok (.iload 5, 2) := by decide +kernel
theorem dX8_just_84 : decode cX8_just 84 = .ok (.iastore, 1) := by decide +kernel
theorem dX8_just_85 : decode cX8_just 85 = .ok (.aload_n 0, 1) := by decide +kernel
theorem dX8_just_86 : decode cX8_just 86 = .ok (.getfield 62, 3) := by decide +kernel
theorem dX8_just_89 : decode cX8_just 89 = .ok (.aload_n 0, 1) := by decide +kernel
theorem dX8_just_90 : decode cX8_just 90 = .ok (.getfield 68, 3) := by decide +kernel
theorem dX8_just_93 : decode cX8_just 93 = .ok (.invokevirtual 252, 3) := by decide +kernel
theorem dX8_just_96 : decode cX8_just 96 = .ok (.aload_n 0, 1) := by decide +kernel
theorem dX8_just_97 : decode cX8_just 97 = .ok (.getfield 62, 3) := by decide +kernel
theorem dX8_just_100 : decode cX8_just 100 = .ok (.iload_n 1, 1) := by decide +kernel
theorem dX8_just_101 : decode cX8_just 101 = .ok (.iload_n 2, 1) := by decide +kernel
theorem dX8_just_102 : decode cX8_just 102 = .ok (.invokevirtual 276, 3) := by decide +kernel
theorem dX8_just_105 : decode cX8_just 105 = .ok (.ifCond .eq 6, 3) := by decide +kernel
theorem dX8_just_108 : decode cX8_just 108 = .ok (.iload 5, 2) := by decide +kernel
theorem dX8_just_110 : decode cX8_just 110 = .ok (.ireturn, 1) := by decide +kernel
theorem dX8_just_111 : decode cX8_just 111 = .ok (.iinc 4 1, 3) := by decide +kernel
theorem dX8_just_114 : decode cX8_just 114 = .ok (.goto (-66), 3) := by decide +kernel
theorem dX8_just_117 : decode cX8_just 117 = .ok (.iconst (-1), 1) := by decide +kernel
theorem dX8_just_118 : decode cX8_just 118 = .ok (.ireturn, 1) := by decide +kernel
theorem dX8_stop_0 : decode cX8_stop 0 = .ok (.aload_n 0, 1) := by decide +kernel
theorem dX8_stop_1 : decode cX8_stop 1 = .ok (.iload_n 1, 1) := by decide +kernel
theorem dX8_stop_2 : decode cX8_stop 2 = .ok (.iload_n 2, 1) := by decide +kernel
theorem dX8_stop_3 : decode cX8_stop 3 = .ok (.iload_n 3, 1) := by decide +kernel
theorem dX8_stop_4 : decode cX8_stop 4 = .ok (.invokevirtual 280, 3) := by decide +kernel
theorem dX8_stop_7 : decode cX8_stop 7 = .ok (.ifCond .eq 27, 3) := by decide +kernel
theorem dX8_stop_10 : decode cX8_stop 10 = .ok (.iload 4, 2) := by decide +kernel
theorem dX8_stop_12 : decode cX8_stop 12 = .ok (.iconst 1, 1) := by decide +kernel
theorem dX8_stop_13 : decode cX8_stop 13 = .ok (.if_icmp .lt 21, 3) := by decide +kernel
theorem dX8_stop_16 : decode cX8_stop 16 = .ok (.iload 4, 2) := by decide +kernel
theorem dX8_stop_18 : decode cX8_stop 18 = .ok (.bipush 99, 2) := by decide +kernel
theorem dX8_stop_20 : decode cX8_stop 20 = .ok (.if_icmp .gt 14, 3) := by decide +kernel
theorem dX8_stop_23 : decode cX8_stop 23 = .ok (.iload 5, 2) := by decide +kernel
theorem dX8_stop_25 : decode cX8_stop 25 = .ok (.ifCond .lt 9, 3) := by decide +kernel
theorem dX8_stop_28 : decode cX8_stop 28 = .ok (.iload 5, 2) := by decide +kernel
theorem dX8_stop_30 : decode cX8_stop 30 = .ok (.iconst 3, 1) := by decide +kernel
theorem dX8_stop_31 : decode cX8_stop 31 = .ok (.if_icmp .le 6, 3) := by decide +kernel
theorem dX8_stop_34 : decode cX8_stop 34 = .ok (.bipush (-2), 2) := by decide +kernel
theorem dX8_stop_36 : decode cX8_stop 36 = .ok (.ireturn, 1) := by decide +kernel
theorem dX8_stop_37 : decode cX8_stop 37 = .ok (.aload_n 0, 1) := by decide +kernel
theorem dX8_stop_38 : decode cX8_stop 38 = .ok (.invokevirtual 153, 3) := by decide +kernel
theorem dX8_stop_41 : decode cX8_stop 41 = .ok (.astore 6, 2) := by decide +kernel
theorem dX8_stop_43 : decode cX8_stop 43 = .ok (.aload_n 0, 1) := by decide +kernel
theorem dX8_stop_44 : decode cX8_stop 44 = .ok (.getfield 68, 3) := by decide +kernel
theorem dX8_stop_47 : decode cX8_stop 47 = .ok (.aload_n 0, 1) := by decide +kernel
theorem dX8_stop_48 : decode cX8_stop 48 = .ok (.getfield 28, 3) := by decide +kernel
theorem dX8_stop_51 : decode cX8_stop 51 = .ok (.invokevirtual 245, 3) := by decide +kernel
theorem dX8_stop_54 : decode cX8_stop 54 = .ok (.aload_n 0, 1) := by decide +kernel
theorem dX8_stop_55 : decode cX8_stop 55 = .ok (.getfield 68, 3) := by decide +kernel
theorem dX8_stop_58 : decode cX8_stop 58 = .ok (.iload_n 1, 1) := by decide +kernel
theorem dX8_stop_59 : decode cX8_stop 59 = .ok (.iload_n 2, 1) := by decide +kernel
theorem dX8_stop_60 : decode cX8_stop 60 = .ok (.iload_n 3, 1) := by decide +kernel
theorem dX8_stop_61 : decode cX8_stop 61 = .ok (.iload 4, 2) := by decide +kernel
theorem dX8_stop_63 : decode cX8_stop 63 = .ok (.invokevirtual 284, 3) := by decide +kernel
theorem dX8_stop_66 : decode cX8_stop 66 = .ok (.aload_n 0, 1) := by decide +kernel
theorem dX8_stop_67 : decode cX8_stop 67 = .ok (.getfield 62, 3) := by decide +kernel
theorem dX8_stop_70 : decode cX8_stop 70 = .ok (.aload_n 0, 1) := by decide +kernel
theorem dX8_stop_71 : decode cX8_stop 71 = .ok (.getfield 68, 3) := by decide +kernel
theorem dX8_stop_74 : decode cX8_stop 74 = .ok (.invokevirtual 252, 3) := by decide +kernel
theorem dX8_stop_77 : decode cX8_stop 77 = .ok (.iload 5, 2) := by decide +kernel
theorem dX8_stop_79 : decode cX8_stop 79 = .ok (.iconst 3, 1) := by decide +kernel
theorem dX8_stop_80 : decode cX8_stop 80 = .ok (.if_icmp .ne 25, 3) := by decide +kernel
theorem dX8_stop_83 : decode cX8_stop 83 = .ok (.aload 6, 2) := by decide +kernel
theorem dX8_stop_85 : decode cX8_stop 85 = .ok (.aload_n 0, 1) := by decide +kernel
theorem dX8_stop_86 : decode cX8_stop 86 = .ok (.getfield 28, 3) := by decide +kernel
theorem dX8_stop_89 : decode cX8_stop 89 = .ok (.invokevirtual 219, 3) := by decide +kernel
theorem dX8_stop_92 : decode cX8_stop 92 = .ok (.aload_n 0, 1) := by decide +kernel
theorem dX8_stop_93 : decode cX8_stop 93 = .ok (.getfield 62, 3) := by decide +kernel
theorem dX8_stop_96 : decode cX8_stop 96 = .ok (.aload_n 0, 1) := by decide +kernel
theorem dX8_stop_97 : decode cX8_stop 97 = .ok (.getfield 28, 3) := by decide +kernel
theorem dX8_stop_100 : decode cX8_stop 100 = .ok (.invokevirtual 219, 3) := by decide +kernel
theorem dX8_stop_103 : decode cX8_stop 103 = .ok (.isub, 1) := by decide +kernel
theorem dX8_stop_104 : decode cX8_stop 104 = .ok (.ireturn, 1) := by decide +kernel
theorem dX8_stop_105 : decode cX8_stop 105 = .ok (.iconst 0, 1) := by decide +kernel
theorem dX8_stop_106 : decode cX8_stop 106 = .ok (.istore 7, 2) := by decide +kernel
theorem dX8_stop_108 : decode cX8_stop 108 = .ok (.iconst 0, 1) := by decide +kernel
theorem dX8_stop_109 : decode cX8_stop 109 = .ok (.istore 8, 2) := by decide +kernel
theorem dX8_stop_111 : decode cX8_stop 111 = .ok (.iconst 0, 1) := by decide +kernel
theorem dX8_stop_112 : decode cX8_stop 112 = .ok (.istore 9, 2) := by decide +kernel
theorem dX8_stop_114 : decode cX8_stop 114 = .ok (.iconst 0, 1) := by decide +kernel
theorem dX8_stop_115 : decode cX8_stop 115 = .ok (.istore 10, 2) := by decide +kernel
theorem dX8_stop_117 : decode cX8_stop 117 = .ok (.iload 10, 2) := by decide +kernel
theorem dX8_stop_119 : decode cX8_stop 119 = .ok (.aload_n 0, 1) := by decide +kernel
theorem dX8_stop_120 : decode cX8_stop 120 = .ok (.getfield 28, 3) := by decide +kernel
theorem dX8_stop_123 : decode cX8_stop 123 = .ok (.getfield 226, 3) := by decide +kernel
theorem dX8_stop_126 : decode cX8_stop 126 = .ok (.if_icmp .ge 106, 3) := by decide +kernel
theorem dX8_stop_129 : decode cX8_stop 129 = .ok (.aload_n 0, 1) := by decide +kernel
theorem dX8_stop_130 : decode cX8_stop 130 = .ok (.getfield 62, 3) := by decide +kernel
theorem dX8_stop_133 : decode cX8_stop 133 = .ok (.getfield 181, 3) := by decide +kernel
theorem dX8_stop_136 : decode cX8_stop 136 = .ok (.iload 10, 2) := by decide +kernel
theorem dX8_stop_138 : decode cX8_stop 138 = .ok (.iaload, 1) := by decide +kernel
theorem dX8_stop_139 : decode cX8_stop 139 = .ok (.iconst (-1), 1) := by decide +kernel
theorem dX8_stop_140 : decode cX8_stop 140 = .ok (.if_icmp .ne 13, 3) := by decide +kernel
theorem dX8_stop_143 : decode cX8_stop 143 = .ok (.aload_n 0, 1) := by decide +kernel
theorem dX8_stop_144 : decode cX8_stop 144 = .ok (.getfield 28, 3) := by decide +kernel
theorem dX8_stop_147 : decode cX8_stop 147 = .ok (.getfield 288, 3) := by decide +kernel
theorem dX8_stop_150 : decode cX8_stop 150 = .ok (.goto 13, 3) := by decide +kernel
theorem dX8_stop_153 : decode cX8_stop 153 = .ok (.aload_n 0, 1) := by decide +kernel
theorem dX8_stop_154 : decode cX8_stop 154 = .ok (.getfield 62, 3) := by decide +kernel
theorem dX8_stop_157 : decode cX8_stop 157 = .ok (.getfield 181, 3) := by decide +kernel
theorem dX8_stop_160 : decode cX8_stop 160 = .ok (.iload 10, 2) := by decide +kernel
theorem dX8_stop_162 : decode cX8_stop 162 = .ok (.iaload, 1) := by decide +kernel
theorem dX8_stop_163 : decode cX8_stop 163 = .ok (.istore 11, 2) := by decide +kernel
theorem dX8_stop_165 : decode cX8_stop 165 = .ok (.aload 6, 2) := by decide +kernel
theorem dX8_stop_167 : decode cX8_stop 167 = .ok (.getfield 181, 3) := by decide +kernel
theorem dX8_stop_170 : decode cX8_stop 170 = .ok (.iload 10, 2) := by decide +kernel
theorem dX8_stop_172 : decode cX8_stop 172 = .ok (.iaload, 1) := by decide +kernel
theorem dX8_stop_173 : decode cX8_stop 173 = .ok (.iconst (-1), 1) := by decide +kernel
theorem dX8_stop_174 : decode cX8_stop 174 = .ok (.if_icmp .eq 52, 3) := by decide +kernel
theorem dX8_stop_177 : decode cX8_stop 177 = .ok (.iload 11, 2) := by decide +kernel
theorem dX8_stop_179 : decode cX8_stop 179 = .ok (.aload 6, 2) := by decide +kernel
theorem dX8_stop_181 : decode cX8_stop 181 = .ok (.getfield 181, 3) := by decide +kernel
theorem dX8_stop_184 : decode cX8_stop 184 = .ok (.iload 10, 2) := by decide +kernel
theorem dX8_stop_186 : decode cX8_stop 186 = .ok (.iaload, 1) := by decide +kernel
theorem dX8_stop_187 : decode cX8_stop 187 = .ok (.if_icmp .le 39, 3) := by decide +kernel
theorem dX8_stop_190 : decode cX8_stop 190 = .ok (.iinc 7 1, 3) := by decide +kernel
theorem dX8_stop_193 : decode cX8_stop 193 = .ok (.iload 8, 2) := by decide +kernel
theorem dX8_stop_195 : decode cX8_stop 195 = .ok (.iload 11, 2) := by decide +kernel
theorem dX8_stop_197 : decode cX8_stop 197 = .ok (.aload 6, 2) := by decide +kernel
theorem dX8_stop_199 : decode cX8_stop 199 = .ok (.getfield 181, 3) := by decide +kernel
theorem dX8_stop_202 : decode cX8_stop 202 = .ok (.iload 10, 2) := by decide +kernel
theorem dX8_stop_204 : decode cX8_stop 204 = .ok (.iaload, 1) := by decide +kernel
theorem dX8_stop_205 : decode cX8_stop 205 = .ok (.isub, 1) := by decide +kernel
theorem dX8_stop_206 : decode cX8_stop 206 = .ok (.iadd, 1) := by decide +kernel
theorem dX8_stop_207 : decode cX8_stop 207 = .ok (.istore 8, 2) := by decide +kernel
theorem dX8_stop_209 : decode cX8_stop 209 = .ok (.iload 9, 2) := by decide +kernel
theorem dX8_stop_211 : decode cX8_stop 211 = .ok (.iconst 1, 1) := by decide +kernel
theorem dX8_stop_212 : decode cX8_stop 212 = .ok (.aload_n 0, 1) := by decide +kernel
theorem dX8_stop_213 : decode cX8_stop 213 = .ok (.getfield 28, 3) := by decide +kernel
theorem dX8_stop_216 : decode cX8_stop 216 = .ok (.getfield 147, 3) := by decide +kernel
theorem dX8_stop_219 : decode cX8_stop 219 = .ok (.iload 10, 2) := by decide +kernel
theorem dX8_stop_221 : decode cX8_stop 221 = .ok (.iaload, 1) := by decide +kernel
theorem dX8_stop_222 : decode cX8_stop 222 = .ok (.ishl, 1) := by decide +kernel
theorem dX8_stop_223 : decode cX8_stop 223 = .ok (.ior, 1) := by decide +kernel
theorem dX8_stop_224 : decode cX8_stop 224 = .ok (.istore 9, 2) := by decide +kernel
theorem dX8_stop_226 : decode cX8_stop 226 = .ok (.iinc 10 1, 3) := by decide +kernel
theorem dX8_stop_229 : decode cX8_stop 229 = .ok (.goto (-112), 3) := by decide +kernel
theorem dX8_stop_232 : decode cX8_stop 232 = .ok (.iload 5, 2) := by decide +kernel
theorem dX8_stop_234 : decode cX8_stop 234 = .ok (.ifCond .ne 6, 3) := by decide +kernel
theorem dX8_stop_237 : decode cX8_stop 237 = .ok (.iload 7, 2) := by decide +kernel
theorem dX8_stop_239 : decode cX8_stop 239 = .ok (.ireturn, 1) := by decide +kernel
theorem dX8_stop_240 : decode cX8_stop 240 = .ok (.iload 5, 2) := by decide +kernel
theorem dX8_stop_242 : decode cX8_stop 242 = .ok (.iconst 1, 1) := by decide +kernel
theorem dX8_stop_243 : decode cX8_stop 243 = .ok (.if_icmp .ne 8, 3) := by decide +kernel
theorem dX8_stop_246 : decode cX8_stop 246 = .ok (.iload 8, 2) := by decide +kernel
theorem dX8_stop_248 : decode cX8_stop 248 = .ok (.goto 5, 3) := by decide +kernel
theorem dX8_stop_251 : decode cX8_stop 251 = .ok (.iload 9, 2) := by decide +kernel
theorem dX8_stop_253 : decode cX8_stop 253 = .ok (.ireturn, 1) := by decide +kernel
theorem dX8_hold_0 : decode cX8_hold 0 = .ok (.aload_n 0, 1) := by decide +kernel
theorem dX8_hold_1 : decode cX8_hold 1 = .ok (.iload_n 1, 1) := by decide +kernel
theorem dX8_hold_2 : decode cX8_hold 2 = .ok (.iload_n 2, 1) := by decide +kernel
theorem dX8_hold_3 : decode cX8_hold 3 = .ok (.iload_n 3, 1) := by decide +kernel
theorem dX8_hold_4 : decode cX8_hold 4 = .ok (.invokevirtual 280, 3) := by decide +kernel
theorem dX8_hold_7 : decode cX8_hold 7 = .ok (.ifCond .eq 27, 3) := by decide +kernel
theorem dX8_hold_10 : decode cX8_hold 10 = .ok (.aload_n 0, 1) := by decide +kernel
theorem dX8_hold_11 : decode cX8_hold 11 = .ok (.getfield 28, 3) := by decide +kernel
theorem dX8_hold_14 : decode cX8_hold 14 = .ok (.iload 4, 2) := by decide +kernel
theorem dX8_hold_16 : decode cX8_hold 16 = .ok (.invokevirtual 172, 3) := by decide +kernel
theorem dX8_hold_19 : decode cX8_hold 19 = .ok (.ifCond .eq 15, 3) := by decide +kernel
theorem dX8_hold_22 : decode cX8_hold 22 = .ok (.aload_n 0, 1) := by decide +kernel
theorem dX8_hold_23 : decode cX8_hold 23 = .ok (.getfield 28, 3) := by decide +kernel
theorem dX8_hold_26 : decode cX8_hold 26 = .ok (.iload 5, 2) := by decide +kernel
theorem dX8_hold_28 : decode cX8_hold 28 = .ok (.invokevirtual 187, 3) := by decide +kernel
theorem dX8_hold_31 : decode cX8_hold 31 = .ok (.ifCond .ne 6, 3) := by decide +kernel
theorem dX8_hold_34 : decode cX8_hold 34 = .ok (.bipush (-2), 2) := by decide +kernel
theorem dX8_hold_36 : decode cX8_hold 36 = .ok (.ireturn, 1) := by decide +kernel
theorem dX8_hold_37 : decode cX8_hold 37 = .ok (.aload_n 0, 1) := by decide +kernel
theorem dX8_hold_38 : decode cX8_hold 38 = .ok (.getfield 68, 3) := by decide +kernel
theorem dX8_hold_41 : decode cX8_hold 41 = .ok (.aload_n 0, 1) := by decide +kernel
theorem dX8_hold_42 : decode cX8_hold 42 = .ok (.getfield 28, 3) := by decide +kernel
theorem dX8_hold_45 : decode cX8_hold 45 = .ok (.invokevirtual 245, 3) := by decide +kernel
theorem dX8_hold_48 : decode cX8_hold 48 = .ok (.iconst 1, 1) := by decide +kernel
theorem dX8_hold_49 : decode cX8_hold 49 = .ok (.istore 6, 2) := by decide +kernel
theorem dX8_hold_51 : decode cX8_hold 51 = .ok (.iload 6, 2) := by decide +kernel
theorem dX8_hold_53 : decode cX8_hold 53 = .ok (.bipush 99, 2) := by decide +kernel
theorem dX8_hold_55 : decode cX8_hold 55 = .ok (.if_icmp .gt 49, 3) := by decide +kernel
theorem dX8_hold_58 : decode cX8_hold 58 = .ok (.aload_n 0, 1) := by decide +kernel
theorem dX8_hold_59 : decode cX8_hold 59 = .ok (.getfield 68, 3) := by decide +kernel
theorem dX8_hold_62 : decode cX8_hold 62 = .ok (.iload_n 1, 1) := by decide +kernel
theorem dX8_hold_63 : decode cX8_hold 63 = .ok (.iload_n 2, 1) := by decide +kernel
theorem dX8_hold_64 : decode cX8_hold 64 = .ok (.iload_n 3, 1) := by decide +kernel
theorem dX8_hold_65 : decode cX8_hold 65 = .ok (.iload 6, 2) := by decide +kernel
theorem dX8_hold_67 : decode cX8_hold 67 = .ok (.invokevirtual 284, 3) := by decide +kernel
theorem dX8_hold_70 : decode cX8_hold 70 = .ok (.aload_n 0, 1) := by decide +kernel
theorem dX8_hold_71 : decode cX8_hold 71 = .ok (.getfield 62, 3) := by decide +kernel
theorem dX8_hold_74 : decode cX8_hold 74 = .ok (.aload_n 0, 1) := by decide +kernel
theorem dX8_hold_75 : decode cX8_hold 75 = .ok (.getfield 68, 3) := by decide +kernel
theorem dX8_hold_78 : decode cX8_hold 78 = .ok (.invokevirtual 252, 3) := by decide +kernel
theorem dX8_hold_81 : decode cX8_hold 81 = .ok (.aload_n 0, 1) := by decide +kernel
theorem dX8_hold_82 : decode cX8_hold 82 = .ok (.getfield 62, 3) := by decide +kernel
theorem dX8_hold_85 : decode cX8_hold 85 = .ok (.iload 4, 2) := by decide +kernel
theorem dX8_hold_87 : decode cX8_hold 87 = .ok (.iload 5, 2) := by decide +kernel
theorem dX8_hold_89 : decode cX8_hold 89 = .ok (.invokevirtual 276, 3) := by decide +kernel
theorem dX8_hold_92 : decode cX8_hold 92 = .ok (.ifCond .ne 6, 3) := by decide +kernel
theorem dX8_hold_95 : decode cX8_hold 95 = .ok (.iload 6, 2) := by decide +kernel
theorem dX8_hold_97 : decode cX8_hold 97 = .ok (.ireturn, 1) := by decide +kernel
theorem dX8_hold_98 : decode cX8_hold 98 = .ok (.iinc 6 1, 3) := by decide +kernel
theorem dX8_hold_101 : decode cX8_hold 101 = .ok (.goto (-50), 3) := by decide +kernel
theorem dX8_hold_104 : decode cX8_hold 104 = .ok (.iconst (-1), 1) := by decide +kernel
theorem dX8_hold_105 : decode cX8_hold 105 = .ok (.ireturn, 1) := by decide +kernel
theorem dX8_visit_0 : decode cX8_visit 0 = .ok (.aload_n 0, 1) := by decide +kernel
theorem dX8_visit_1 : decode cX8_visit 1 = .ok (.getfield 28, 3) := by decide +kernel
theorem dX8_visit_4 : decode cX8_visit 4 = .ok (.iload_n 1, 1) := by decide +kernel
theorem dX8_visit_5 : decode cX8_visit 5 = .ok (.invokevirtual 172, 3) := by decide +kernel
theorem dX8_visit_8 : decode cX8_visit 8 = .ok (.ifCond .eq 22, 3) := by decide +kernel
theorem dX8_visit_11 : decode cX8_visit 11 = .ok (.aload_n 0, 1) := by decide +kernel
theorem dX8_visit_12 : decode cX8_visit 12 = .ok (.getfield 28, 3) := by decide +kernel
theorem dX8_visit_15 : decode cX8_visit 15 = .ok (.iload_n 2, 1) := by decide +kernel
theorem dX8_visit_16 : decode cX8_visit 16 = .ok (.invokevirtual 187, 3) := by decide +kernel
theorem dX8_visit_19 : decode cX8_visit 19 = .ok (.ifCond .eq 11, 3) := by decide +kernel
theorem dX8_visit_22 : decode cX8_visit 22 = .ok (.aload_n 0, 1) := by decide +kernel
theorem dX8_visit_23 : decode cX8_visit 23 = .ok (.iload_n 3, 1) := by decide +kernel
theorem dX8_visit_24 : decode cX8_visit 24 = .ok (.invokevirtual 291, 3) := by decide +kernel
theorem dX8_visit_27 : decode cX8_visit 27 = .ok (.ifCond .ne 6, 3) := by decide +kernel
theorem dX8_visit_30 : decode cX8_visit 30 = .ok (.bipush (-2), 2) := by decide +kernel
theorem dX8_visit_32 : decode cX8_visit 32 = .ok (.ireturn, 1) := by decide +kernel
theorem dX8_visit_33 : decode cX8_visit 33 = .ok (.aload_n 0, 1) := by decide +kernel
theorem dX8_visit_34 : decode cX8_visit 34 = .ok (.getfield 68, 3) := by decide +kernel
theorem dX8_visit_37 : decode cX8_visit 37 = .ok (.aload_n 0, 1) := by decide +kernel
theorem dX8_visit_38 : decode cX8_visit 38 = .ok (.getfield 28, 3) := by decide +kernel
theorem dX8_visit_41 : decode cX8_visit 41 = .ok (.invokevirtual 245, 3) := by decide +kernel
theorem dX8_visit_44 : decode cX8_visit 44 = .ok (.aload_n 0, 1) := by decide +kernel
theorem dX8_visit_45 : decode cX8_visit 45 = .ok (.getfield 68, 3) := by decide +kernel
theorem dX8_visit_48 : decode cX8_visit 48 = .ok (.iload_n 1, 1) := by decide +kernel
theorem dX8_visit_49 : decode cX8_visit 49 = .ok (.iload_n 2, 1) := by decide +kernel
theorem dX8_visit_50 : decode cX8_visit 50 = .ok (.iload_n 3, 1) := by decide +kernel
theorem dX8_visit_51 : decode cX8_visit 51 = .ok (.invokevirtual 294, 3) := by decide +kernel
theorem dX8_visit_54 : decode cX8_visit 54 = .ok (.aload_n 0, 1) := by decide +kernel
theorem dX8_visit_55 : decode cX8_visit 55 = .ok (.getfield 62, 3) := by decide +kernel
theorem dX8_visit_58 : decode cX8_visit 58 = .ok (.aload_n 0, 1) := by decide +kernel
theorem dX8_visit_59 : decode cX8_visit 59 = .ok (.getfield 68, 3) := by decide +kernel
theorem dX8_visit_62 : decode cX8_visit 62 = .ok (.invokevirtual 252, 3) := by decide +kernel
theorem dX8_visit_65 : decode cX8_visit 65 = .ok (.aload_n 0, 1) := by decide +kernel
theorem dX8_visit_66 : decode cX8_visit 66 = .ok (.getfield 62, 3) := by decide +kernel
theorem dX8_visit_69 : decode cX8_visit 69 = .ok (.aload_n 0, 1) := by decide +kernel
theorem dX8_visit_70 : decode cX8_visit 70 = .ok (.getfield 28, 3) := by decide +kernel
theorem dX8_visit_73 : decode cX8_visit 73 = .ok (.invokevirtual 219, 3) := by decide +kernel
theorem dX8_visit_76 : decode cX8_visit 76 = .ok (.ireturn, 1) := by decide +kernel
theorem dX8_pays_0 : decode cX8_pays 0 = .ok (.aload_n 0, 1) := by decide +kernel
theorem dX8_pays_1 : decode cX8_pays 1 = .ok (.getfield 28, 3) := by decide +kernel
theorem dX8_pays_4 : decode cX8_pays 4 = .ok (.iload_n 1, 1) := by decide +kernel
theorem dX8_pays_5 : decode cX8_pays 5 = .ok (.invokevirtual 172, 3) := by decide +kernel
theorem dX8_pays_8 : decode cX8_pays 8 = .ok (.ifCond .eq 11, 3) := by decide +kernel
theorem dX8_pays_11 : decode cX8_pays 11 = .ok (.aload_n 0, 1) := by decide +kernel
theorem dX8_pays_12 : decode cX8_pays 12 = .ok (.iload_n 2, 1) := by decide +kernel
theorem dX8_pays_13 : decode cX8_pays 13 = .ok (.invokevirtual 291, 3) := by decide +kernel
theorem dX8_pays_16 : decode cX8_pays 16 = .ok (.ifCond .ne 6, 3) := by decide +kernel
theorem dX8_pays_19 : decode cX8_pays 19 = .ok (.bipush (-2), 2) := by decide +kernel
theorem dX8_pays_21 : decode cX8_pays 21 = .ok (.ireturn, 1) := by decide +kernel
theorem dX8_pays_22 : decode cX8_pays 22 = .ok (.aload_n 0, 1) := by decide +kernel
theorem dX8_pays_23 : decode cX8_pays 23 = .ok (.invokevirtual 153, 3) := by decide +kernel
theorem dX8_pays_26 : decode cX8_pays 26 = .ok (.aload_n 0, 1) := by decide +kernel
theorem dX8_pays_27 : decode cX8_pays 27 = .ok (.getfield 28, 3) := by decide +kernel
theorem dX8_pays_30 : decode cX8_pays 30 = .ok (.invokevirtual 219, 3) := by decide +kernel
theorem dX8_pays_33 : decode cX8_pays 33 = .ok (.istore_n 3, 1) := by decide +kernel
theorem dX8_pays_34 : decode cX8_pays 34 = .ok (.iconst (-1), 1) := by decide +kernel
theorem dX8_pays_35 : decode cX8_pays 35 = .ok (.istore 4, 2) := by decide +kernel
theorem dX8_pays_37 : decode cX8_pays 37 = .ok (.aload_n 0, 1) := by decide +kernel
theorem dX8_pays_38 : decode cX8_pays 38 = .ok (.getfield 68, 3) := by decide +kernel
theorem dX8_pays_41 : decode cX8_pays 41 = .ok (.aload_n 0, 1) := by decide +kernel
theorem dX8_pays_42 : decode cX8_pays 42 = .ok (.getfield 28, 3) := by decide +kernel
theorem dX8_pays_45 : decode cX8_pays 45 = .ok (.invokevirtual 245, 3) := by decide +kernel
theorem dX8_pays_48 : decode cX8_pays 48 = .ok (.iconst 0, 1) := by decide +kernel
theorem dX8_pays_49 : decode cX8_pays 49 = .ok (.istore 5, 2) := by decide +kernel
theorem dX8_pays_51 : decode cX8_pays 51 = .ok (.iload 5, 2) := by decide +kernel
theorem dX8_pays_53 : decode cX8_pays 53 = .ok (.aload_n 0, 1) := by decide +kernel
theorem dX8_pays_54 : decode cX8_pays 54 = .ok (.getfield 28, 3) := by decide +kernel
theorem dX8_pays_57 : decode cX8_pays 57 = .ok (.getfield 288, 3) := by decide +kernel
theorem dX8_pays_60 : decode cX8_pays 60 = .ok (.if_icmp .ge 57, 3) := by decide +kernel
theorem dX8_pays_63 : decode cX8_pays 63 = .ok (.aload_n 0, 1) := by decide +kernel
theorem dX8_pays_64 : decode cX8_pays 64 = .ok (.getfield 68, 3) := by decide +kernel
theorem dX8_pays_67 : decode cX8_pays 67 = .ok (.iload_n 1, 1) := by decide +kernel
theorem dX8_pays_68 : decode cX8_pays 68 = .ok (.iload 5, 2) := by decide +kernel
theorem dX8_pays_70 : decode cX8_pays 70 = .ok (.iload_n 2, 1) := by decide +kernel
theorem dX8_pays_71 : decode cX8_pays 71 = .ok (.invokevirtual 294, 3) := by decide +kernel
theorem dX8_pays_74 : decode cX8_pays 74 = .ok (.aload_n 0, 1) := by decide +kernel
theorem dX8_pays_75 : decode cX8_pays 75 = .ok (.getfield 62, 3) := by decide +kernel
theorem dX8_pays_78 : decode cX8_pays 78 = .ok (.aload_n 0, 1) := by decide +kernel
theorem dX8_pays_79 : decode cX8_pays 79 = .ok (.getfield 68, 3) := by decide +kernel
theorem dX8_pays_82 : decode cX8_pays 82 = .ok (.invokevirtual 252, 3) := by decide +kernel
theorem dX8_pays_85 : decode cX8_pays 85 = .ok (.aload_n 0, 1) := by decide +kernel
theorem dX8_pays_86 : decode cX8_pays 86 = .ok (.getfield 62, 3) := by decide +kernel
theorem dX8_pays_89 : decode cX8_pays 89 = .ok (.aload_n 0, 1) := by decide +kernel
theorem dX8_pays_90 : decode cX8_pays 90 = .ok (.getfield 28, 3) := by decide +kernel
theorem dX8_pays_93 : decode cX8_pays 93 = .ok (.invokevirtual 219, 3) := by decide +kernel
theorem dX8_pays_96 : decode cX8_pays 96 = .ok (.istore 6, 2) := by decide +kernel
theorem dX8_pays_98 : decode cX8_pays 98 = .ok (.iload 6, 2) := by decide +kernel
theorem dX8_pays_100 : decode cX8_pays 100 = .ok (.iload_n 3, 1) := by decide +kernel
theorem dX8_pays_101 : decode cX8_pays 101 = .ok (.if_icmp .le 10, 3) := by decide +kernel
theorem dX8_pays_104 : decode cX8_pays 104 = .ok (.iload 6, 2) := by decide +kernel
theorem dX8_pays_106 : decode cX8_pays 106 = .ok (.istore_n 3, 1) := by decide +kernel
theorem dX8_pays_107 : decode cX8_pays 107 = .ok (.iload 5, 2) := by decide +kernel
theorem dX8_pays_109 : decode cX8_pays 109 = .ok (.istore 4, 2) := by decide +kernel
theorem dX8_pays_111 : decode cX8_pays 111 = .ok (.iinc 5 1, 3) := by decide +kernel
theorem dX8_pays_114 : decode cX8_pays 114 = .ok (.goto (-63), 3) := by decide +kernel
theorem dX8_pays_117 : decode cX8_pays 117 = .ok (.iload 4, 2) := by decide +kernel
theorem dX8_pays_119 : decode cX8_pays 119 = .ok (.ireturn, 1) := by decide +kernel
theorem dX8_instead_0 : decode cX8_instead 0 = .ok (.aload_n 0, 1) := by decide +kernel
theorem dX8_instead_1 : decode cX8_instead 1 = .ok (.invokevirtual 175, 3) := by decide +kernel
theorem dX8_instead_4 : decode cX8_instead 4 = .ok (.ifCond .ne 11, 3) := by decide +kernel
theorem dX8_instead_7 : decode cX8_instead 7 = .ok (.aload_n 0, 1) := by decide +kernel
theorem dX8_instead_8 : decode cX8_instead 8 = .ok (.iload_n 1, 1) := by decide +kernel
theorem dX8_instead_9 : decode cX8_instead 9 = .ok (.invokevirtual 291, 3) := by decide +kernel
theorem dX8_instead_12 : decode cX8_instead 12 = .ok (.ifCond .ne 6, 3) := by decide +kernel
theorem dX8_instead_15 : decode cX8_instead 15 = .ok (.bipush (-2), 2) := by decide +kernel
theorem dX8_instead_17 : decode cX8_instead 17 = .ok (.ireturn, 1) := by decide +kernel
theorem dX8_instead_18 : decode cX8_instead 18 = .ok (.aload_n 0, 1) := by decide +kernel
theorem dX8_instead_19 : decode cX8_instead 19 = .ok (.invokevirtual 153, 3) := by decide +kernel
theorem dX8_instead_22 : decode cX8_instead 22 = .ok (.aload_n 0, 1) := by decide +kernel
theorem dX8_instead_23 : decode cX8_instead 23 = .ok (.getfield 28, 3) := by decide +kernel
theorem dX8_instead_26 : decode cX8_instead 26 = .ok (.invokevirtual 219, 3) := by decide +kernel
theorem dX8_instead_29 : decode cX8_instead 29 = .ok (.istore_n 2, 1) := by decide +kernel
theorem dX8_instead_30 : decode cX8_instead 30 = .ok (.iconst (-1), 1) := by decide +kernel
theorem dX8_instead_31 : decode cX8_instead 31 = .ok (.istore_n 3, 1) := by decide +kernel
theorem dX8_instead_32 : decode cX8_instead 32 = .ok (.aload_n 0, 1) := by decide +kernel
theorem dX8_instead_33 : decode cX8_instead 33 = .ok (.getfield 68, 3) := by decide +kernel
theorem dX8_instead_36 : decode cX8_instead 36 = .ok (.aload_n 0, 1) := by decide +kernel
theorem dX8_instead_37 : decode cX8_instead 37 = .ok (.getfield 28, 3) := by decide +kernel
theorem dX8_instead_40 : decode cX8_instead 40 = .ok (.invokevirtual 245, 3) := by decide +kernel
theorem dX8_instead_43 : decode cX8_instead 43 = .ok (.iconst 0, 1) := by decide +kernel
theorem dX8_instead_44 : decode cX8_instead 44 = .ok (.istore 4, 2) := by decide +kernel
theorem dX8_instead_46 : decode cX8_instead 46 = .ok (.iload 4, 2) := by decide +kernel
theorem dX8_instead_48 : decode cX8_instead 48 = .ok (.aload_n 0, 1) := by decide +kernel
theorem dX8_instead_49 : decode cX8_instead 49 = .ok (.getfield 28, 3) := by decide +kernel
theorem dX8_instead_52 : decode cX8_instead 52 = .ok (.getfield 226, 3) := by decide +kernel
theorem dX8_instead_55 : decode cX8_instead 55 = .ok (.if_icmp .ge 78, 3) := by decide +kernel
theorem dX8_instead_58 : decode cX8_instead 58 = .ok (.iconst 0, 1) := by decide +kernel
theorem dX8_instead_59 : decode cX8_instead 59 = .ok (.istore 5, 2) := by decide +kernel
theorem dX8_instead_61 : decode cX8_instead 61 = .ok (.iload 5, 2) := by decide +kernel
theorem dX8_instead_63 : decode cX8_instead 63 = .ok (.aload_n 0, 1) := by decide +kernel
theorem dX8_instead_64 : decode cX8_instead 64 = .ok (.getfield 28, 3) := by decide +kernel
theorem dX8_instead_67 : decode cX8_instead 67 = .ok (.getfield 288, 3) := by decide +kernel
theorem dX8_instead_70 : decode cX8_instead 70 = .ok (.if_icmp .ge 57, 3) := by decide +kernel
theorem dX8_instead_73 : decode cX8_instead 73 = .ok (.aload_n 0, 1) := by decide +kernel
theorem dX8_instead_74 : decode cX8_instead 74 = .ok (.getfield 68, 3) := by decide +kernel
theorem dX8_instead_77 : decode cX8_instead 77 = .ok (.iload 4, 2) := by decide +kernel
theorem dX8_instead_79 : decode cX8_instead 79 = .ok (.iload 5, 2) := by decide +kernel
theorem dX8_instead_81 : decode cX8_instead 81 = .ok (.iload_n 1, 1) := by decide +kernel
theorem dX8_instead_82 : decode cX8_instead 82 = .ok (.invokevirtual 294, 3) := by decide +kernel
theorem dX8_instead_85 : decode cX8_instead 85 = .ok (.aload_n 0, 1) := by decide +kernel
theorem dX8_instead_86 : decode cX8_instead 86 = .ok (.getfield 62, 3) := by decide +kernel
theorem dX8_instead_89 : decode cX8_instead 89 = .ok (.aload_n 0, 1) := by decide +kernel
theorem dX8_instead_90 : decode cX8_instead 90 = .ok (.getfield 68, 3) := by decide +kernel
theorem dX8_instead_93 : decode cX8_instead 93 = .ok (.invokevirtual 252, 3) := by decide +kernel
theorem dX8_instead_96 : decode cX8_instead 96 = .ok (.aload_n 0, 1) := by decide +kernel
theorem dX8_instead_97 : decode cX8_instead 97 = .ok (.getfield 62, 3) := by decide +kernel
theorem dX8_instead_100 : decode cX8_instead 100 = .ok (.aload_n 0, 1) := by decide +kernel
theorem dX8_instead_101 : decode cX8_instead 101 = .ok (.getfield 28, 3) := by decide +kernel
theorem dX8_instead_104 : decode cX8_instead 104 = .ok (.invokevirtual 219, 3) := by decide +kernel
theorem dX8_instead_107 : decode cX8_instead 107 = .ok (.istore 6, 2) := by decide +kernel
theorem dX8_instead_109 : decode cX8_instead 109 = .ok (.iload 6, 2) := by decide +kernel
theorem dX8_instead_111 : decode cX8_instead 111 = .ok (.iload_n 2, 1) := by decide +kernel
theorem dX8_instead_112 : decode cX8_instead 112 = .ok (.if_icmp .le 9, 3) := by decide +kernel
theorem dX8_instead_115 : decode cX8_instead 115 = .ok (.iload 6, 2) := by decide +kernel
theorem dX8_instead_117 : decode cX8_instead 117 = .ok (.istore_n 2, 1) := by decide +kernel
theorem dX8_instead_118 : decode cX8_instead 118 = .ok (.iload 4, 2) := by decide +kernel
theorem dX8_instead_120 : decode cX8_instead 120 = .ok (.istore_n 3, 1) := by decide +kernel
theorem dX8_instead_121 : decode cX8_instead 121 = .ok (.iinc 5 1, 3) := by decide +kernel
theorem dX8_instead_124 : decode cX8_instead 124 = .ok (.goto (-63), 3) := by decide +kernel
theorem dX8_instead_127 : decode cX8_instead 127 = .ok (.iinc 4 1, 3) := by decide +kernel
theorem dX8_instead_130 : decode cX8_instead 130 = .ok (.goto (-84), 3) := by decide +kernel
theorem dX8_instead_133 : decode cX8_instead 133 = .ok (.iload_n 3, 1) := by decide +kernel
theorem dX8_instead_134 : decode cX8_instead 134 = .ok (.ireturn, 1) := by decide +kernel
theorem dX8_burn_0 : decode cX8_burn 0 = .ok (.aload_n 0, 1) := by decide +kernel
theorem dX8_burn_1 : decode cX8_burn 1 = .ok (.getfield 28, 3) := by decide +kernel
theorem dX8_burn_4 : decode cX8_burn 4 = .ok (.iload_n 1, 1) := by decide +kernel
theorem dX8_burn_5 : decode cX8_burn 5 = .ok (.invokevirtual 128, 3) := by decide +kernel
theorem dX8_burn_8 : decode cX8_burn 8 = .ok (.ifCond .eq 14, 3) := by decide +kernel
theorem dX8_burn_11 : decode cX8_burn 11 = .ok (.aload_n 0, 1) := by decide +kernel
theorem dX8_burn_12 : decode cX8_burn 12 = .ok (.getfield 28, 3) := by decide +kernel
theorem dX8_burn_15 : decode cX8_burn 15 = .ok (.iload_n 2, 1) := by decide +kernel
theorem dX8_burn_16 : decode cX8_burn 16 = .ok (.invokevirtual 187, 3) := by decide +kernel
theorem dX8_burn_19 : decode cX8_burn 19 = .ok (.ifCond .ne 6, 3) := by decide +kernel
theorem dX8_burn_22 : decode cX8_burn 22 = .ok (.bipush (-2), 2) := by decide +kernel
theorem dX8_burn_24 : decode cX8_burn 24 = .ok (.ireturn, 1) := by decide +kernel
theorem dX8_burn_25 : decode cX8_burn 25 = .ok (.aload_n 0, 1) := by decide +kernel
theorem dX8_burn_26 : decode cX8_burn 26 = .ok (.getfield 68, 3) := by decide +kernel
theorem dX8_burn_29 : decode cX8_burn 29 = .ok (.aload_n 0, 1) := by decide +kernel
theorem dX8_burn_30 : decode cX8_burn 30 = .ok (.getfield 28, 3) := by decide +kernel
theorem dX8_burn_33 : decode cX8_burn 33 = .ok (.invokevirtual 245, 3) := by decide +kernel
theorem dX8_burn_36 : decode cX8_burn 36 = .ok (.aload_n 0, 1) := by decide +kernel
theorem dX8_burn_37 : decode cX8_burn 37 = .ok (.getfield 68, 3) := by decide +kernel
theorem dX8_burn_40 : decode cX8_burn 40 = .ok (.iload_n 1, 1) := by decide +kernel
theorem dX8_burn_41 : decode cX8_burn 41 = .ok (.iload_n 2, 1) := by decide +kernel
theorem dX8_burn_42 : decode cX8_burn 42 = .ok (.invokevirtual 298, 3) := by decide +kernel
theorem dX8_burn_45 : decode cX8_burn 45 = .ok (.aload_n 0, 1) := by decide +kernel
theorem dX8_burn_46 : decode cX8_burn 46 = .ok (.getfield 62, 3) := by decide +kernel
theorem dX8_burn_49 : decode cX8_burn 49 = .ok (.aload_n 0, 1) := by decide +kernel
