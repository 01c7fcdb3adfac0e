theorem dL_up_0 : decode cL_up 0 = .ok (.iload_n 0, 1) := by decide +kernel
theorem dL_up_1 : decode cL_up 1 = .ok (.iconst 2, 1) := by decide +kernel
theorem dL_up_2 : decode cL_up 2 = .ok (.iushr, 1) := by decide +kernel
theorem dL_up_3 : decode cL_up 3 = .ok (.iload_n 1, 1) := by decide +kernel
theorem dL_up_4 : decode cL_up 4 = .ok (.irem, 1) := by decide +kernel
theorem dL_up_5 : decode cL_up 5 = .ok (.ireturn, 1) := by decide +kernel
theorem dL_cell_0 : decode cL_cell 0 = .ok (.aload_n 0, 1) := by decide +kernel
theorem dL_cell_1 : decode cL_cell 1 = .ok (.arraylength, 1) := by decide +kernel
theorem dL_cell_2 : decode cL_cell 2 = .ok (.ifCond .ne 7, 3) := by decide +kernel
theorem dL_cell_5 : decode cL_cell 5 = .ok (.iconst 0, 1) := by decide +kernel
theorem dL_cell_6 : decode cL_cell 6 = .ok (.goto 14, 3) := by decide +kernel
theorem dL_cell_9 : decode cL_cell 9 = .ok (.aload_n 0, 1) := by decide +kernel
theorem dL_cell_10 : decode cL_cell 10 = .ok (.iload_n 1, 1) := by decide +kernel
theorem dL_cell_11 : decode cL_cell 11 = .ok (.aload_n 0, 1) := by decide +kernel
theorem dL_cell_12 : decode cL_cell 12 = .ok (.arraylength, 1) := by decide +kernel
theorem dL_cell_13 : decode cL_cell 13 = .ok (.irem, 1) := by decide +kernel
theorem dL_cell_14 : decode cL_cell 14 = .ok (.iaload, 1) := by decide +kernel
theorem dL_cell_15 : decode cL_cell 15 = .ok (.bipush 31, 2) := by decide +kernel
theorem dL_cell_17 : decode cL_cell 17 = .ok (.iload_n 1, 1) := by decide +kernel
theorem dL_cell_18 : decode cL_cell 18 = .ok (.imul, 1) := by decide +kernel
theorem dL_cell_19 : decode cL_cell 19 = .ok (.iadd, 1) := by decide +kernel
theorem dL_cell_20 : decode cL_cell 20 = .ok (.ireturn, 1) := by decide +kernel
theorem dL_act_0 : decode cL_act 0 = .ok (.iload_n 1, 1) := by decide +kernel
theorem dL_act_1 : decode cL_act 1 = .ok (.ifCond .ne 11, 3) := by decide +kernel
theorem dL_act_4 : decode cL_act 4 = .ok (.aload_n 0, 1) := by decide +kernel
theorem dL_act_5 : decode cL_act 5 = .ok (.iload_n 2, 1) := by decide +kernel
theorem dL_act_6 : decode cL_act 6 = .ok (.invokevirtual 7, 3) := by decide +kernel
theorem dL_act_9 : decode cL_act 9 = .ok (.goto 8, 3) := by decide +kernel
theorem dL_act_12 : decode cL_act 12 = .ok (.aload_n 0, 1) := by decide +kernel
theorem dL_act_13 : decode cL_act 13 = .ok (.iload_n 2, 1) := by decide +kernel
theorem dL_act_14 : decode cL_act 14 = .ok (.invokevirtual 13, 3) := by decide +kernel
theorem dL_act_17 : decode cL_act 17 = .ok (.ireturn, 1) := by decide +kernel
theorem dL_act_18 : decode cL_act 18 = .ok (.astore_n 3, 1) := by decide +kernel
theorem dL_act_19 : decode cL_act 19 = .ok (.sipush (-1003), 3) := by decide +kernel
theorem dL_act_22 : decode cL_act 22 = .ok (.ireturn, 1) := by decide +kernel
theorem dL_breaksIn_0 : decode cL_breaksIn 0 = .ok (.aload_n 0, 1) := by decide +kernel
theorem dL_breaksIn_1 : decode cL_breaksIn 1 = .ok (.iload_n 1, 1) := by decide +kernel
theorem dL_breaksIn_2 : decode cL_breaksIn 2 = .ok (.iload_n 2, 1) := by decide +kernel
theorem dL_breaksIn_3 : decode cL_breaksIn 3 = .ok (.invokevirtual 18, 3) := by decide +kernel
theorem dL_breaksIn_6 : decode cL_breaksIn 6 = .ok (.ireturn, 1) := by decide +kernel
theorem dL_breaksIn_7 : decode cL_breaksIn 7 = .ok (.astore_n 3, 1) := by decide +kernel
theorem dL_breaksIn_8 : decode cL_breaksIn 8 = .ok (.sipush (-1003), 3) := by decide +kernel
theorem dL_breaksIn_11 : decode cL_breaksIn 11 = .ok (.ireturn, 1) := by decide +kernel
theorem dL_behind_0 : decode cL_behind 0 = .ok (.iload_n 1, 1) := by decide +kernel
theorem dL_behind_1 : decode cL_behind 1 = .ok (.iload_n 0, 1) := by decide +kernel
theorem dL_behind_2 : decode cL_behind 2 = .ok (.isub, 1) := by decide +kernel
theorem dL_behind_3 : decode cL_behind 3 = .ok (.iconst 4, 1) := by decide +kernel
theorem dL_behind_4 : decode cL_behind 4 = .ok (.iload_n 2, 1) := by decide +kernel
theorem dL_behind_5 : decode cL_behind 5 = .ok (.iadd, 1) := by decide +kernel
theorem dL_behind_6 : decode cL_behind 6 = .ok (.idiv, 1) := by decide +kernel
theorem dL_behind_7 : decode cL_behind 7 = .ok (.istore_n 3, 1) := by decide +kernel
theorem dL_behind_8 : decode cL_behind 8 = .ok (.iload_n 0, 1) := by decide +kernel
theorem dL_behind_9 : decode cL_behind 9 = .ok (.iload_n 3, 1) := by decide +kernel
theorem dL_behind_10 : decode cL_behind 10 = .ok (.ifCond .eq 7, 3) := by decide +kernel
theorem dL_behind_13 : decode cL_behind 13 = .ok (.iload_n 3, 1) := by decide +kernel
theorem dL_behind_14 : decode cL_behind 14 = .ok (.goto 22, 3) := by decide +kernel
theorem dL_behind_17 : decode cL_behind 17 = .ok (.iload_n 1, 1) := by decide +kernel
theorem dL_behind_18 : decode cL_behind 18 = .ok (.iload_n 0, 1) := by decide +kernel
theorem dL_behind_19 : decode cL_behind 19 = .ok (.if_icmp .le 7, 3) := by decide +kernel
theorem dL_behind_22 : decode cL_behind 22 = .ok (.iconst 1, 1) := by decide +kernel
theorem dL_behind_23 : decode cL_behind 23 = .ok (.goto 13, 3) := by decide +kernel
theorem dL_behind_26 : decode cL_behind 26 = .ok (.iload_n 1, 1) := by decide +kernel
theorem dL_behind_27 : decode cL_behind 27 = .ok (.iload_n 0, 1) := by decide +kernel
theorem dL_behind_28 : decode cL_behind 28 = .ok (.if_icmp .ge 7, 3) := by decide +kernel
theorem dL_behind_31 : decode cL_behind 31 = .ok (.iconst (-1), 1) := by decide +kernel
theorem dL_behind_32 : decode cL_behind 32 = .ok (.goto 4, 3) := by decide +kernel
theorem dL_behind_35 : decode cL_behind 35 = .ok (.iconst 0, 1) := by decide +kernel
theorem dL_behind_36 : decode cL_behind 36 = .ok (.iadd, 1) := by decide +kernel
theorem dL_behind_37 : decode cL_behind 37 = .ok (.ireturn, 1) := by decide +kernel
theorem dL_moved_0 : decode cL_moved 0 = .ok (.iload_n 0, 1) := by decide +kernel
theorem dL_moved_1 : decode cL_moved 1 = .ok (.iconst 2, 1) := by decide +kernel
theorem dL_moved_2 : decode cL_moved 2 = .ok (.iload_n 1, 1) := by decide +kernel
theorem dL_moved_3 : decode cL_moved 3 = .ok (.iadd, 1) := by decide +kernel
theorem dL_moved_4 : decode cL_moved 4 = .ok (.imul, 1) := by decide +kernel
theorem dL_moved_5 : decode cL_moved 5 = .ok (.iload_n 2, 1) := by decide +kernel
theorem dL_moved_6 : decode cL_moved 6 = .ok (.imul, 1) := by decide +kernel
theorem dL_moved_7 : decode cL_moved 7 = .ok (.sipush 10000, 3) := by decide +kernel
theorem dL_moved_10 : decode cL_moved 10 = .ok (.idiv, 1) := by decide +kernel
theorem dL_moved_11 : decode cL_moved 11 = .ok (.ireturn, 1) := by decide +kernel
theorem dL_breaks_0 : decode cL_breaks 0 = .ok (.aload_n 0, 1) := by decide +kernel
theorem dL_breaks_1 : decode cL_breaks 1 = .ok (.iconst 5, 1) := by decide +kernel
theorem dL_breaks_2 : decode cL_breaks 2 = .ok (.iload_n 1, 1) := by decide +kernel
theorem dL_breaks_3 : decode cL_breaks 3 = .ok (.imul, 1) := by decide +kernel
theorem dL_breaks_4 : decode cL_breaks 4 = .ok (.iconst 1, 1) := by decide +kernel
theorem dL_breaks_5 : decode cL_breaks 5 = .ok (.iadd, 1) := by decide +kernel
theorem dL_breaks_6 : decode cL_breaks 6 = .ok (.iaload, 1) := by decide +kernel
theorem dL_breaks_7 : decode cL_breaks 7 = .ok (.istore 5, 2) := by decide +kernel
theorem dL_breaks_9 : decode cL_breaks 9 = .ok (.iload 5, 2) := by decide +kernel
theorem dL_breaks_11 : decode cL_breaks 11 = .ok (.iconst 3, 1) := by decide +kernel
theorem dL_breaks_12 : decode cL_breaks 12 = .ok (.irem, 1) := by decide +kernel
theorem dL_breaks_13 : decode cL_breaks 13 = .ok (.istore 6, 2) := by decide +kernel
theorem dL_breaks_15 : decode cL_breaks 15 = .ok (.aload_n 0, 1) := by decide +kernel
theorem dL_breaks_16 : decode cL_breaks 16 = .ok (.iconst 5, 1) := by decide +kernel
theorem dL_breaks_17 : decode cL_breaks 17 = .ok (.iload_n 1, 1) := by decide +kernel
theorem dL_breaks_18 : decode cL_breaks 18 = .ok (.imul, 1) := by decide +kernel
theorem dL_breaks_19 : decode cL_breaks 19 = .ok (.iconst 2, 1) := by decide +kernel
theorem dL_breaks_20 : decode cL_breaks 20 = .ok (.iadd, 1) := by decide +kernel
theorem dL_breaks_21 : decode cL_breaks 21 = .ok (.iaload, 1) := by decide +kernel
theorem dL_breaks_22 : decode cL_breaks 22 = .ok (.istore 7, 2) := by decide +kernel
theorem dL_breaks_24 : decode cL_breaks 24 = .ok (.aload_n 0, 1) := by decide +kernel
theorem dL_breaks_25 : decode cL_breaks 25 = .ok (.iconst 5, 1) := by decide +kernel
theorem dL_breaks_26 : decode cL_breaks 26 = .ok (.iload_n 1, 1) := by decide +kernel
theorem dL_breaks_27 : decode cL_breaks 27 = .ok (.imul, 1) := by decide +kernel
theorem dL_breaks_28 : decode cL_breaks 28 = .ok (.iaload, 1) := by decide +kernel
theorem dL_breaks_29 : decode cL_breaks 29 = .ok (.iconst 1, 1) := by decide +kernel
theorem dL_breaks_30 : decode cL_breaks 30 = .ok (.if_icmp .ne 38, 3) := by decide +kernel
theorem dL_breaks_33 : decode cL_breaks 33 = .ok (.iload 7, 2) := by decide +kernel
theorem dL_breaks_35 : decode cL_breaks 35 = .ok (.iload 6, 2) := by decide +kernel
theorem dL_breaks_37 : decode cL_breaks 37 = .ok (.iload 4, 2) := by decide +kernel
theorem dL_breaks_39 : decode cL_breaks 39 = .ok (.aload_n 0, 1) := by decide +kernel
theorem dL_breaks_40 : decode cL_breaks 40 = .ok (.iconst 5, 1) := by decide +kernel
theorem dL_breaks_41 : decode cL_breaks 41 = .ok (.iload_n 1, 1) := by decide +kernel
theorem dL_breaks_42 : decode cL_breaks 42 = .ok (.imul, 1) := by decide +kernel
theorem dL_breaks_43 : decode cL_breaks 43 = .ok (.iconst 4, 1) := by decide +kernel
theorem dL_breaks_44 : decode cL_breaks 44 = .ok (.iadd, 1) := by decide +kernel
theorem dL_breaks_45 : decode cL_breaks 45 = .ok (.iaload, 1) := by decide +kernel
theorem dL_breaks_46 : decode cL_breaks 46 = .ok (.isub, 1) := by decide +kernel
theorem dL_breaks_47 : decode cL_breaks 47 = .ok (.invokestatic 22, 3) := by decide +kernel
theorem dL_breaks_50 : decode cL_breaks 50 = .ok (.istore 8, 2) := by decide +kernel
theorem dL_breaks_52 : decode cL_breaks 52 = .ok (.iload 8, 2) := by decide +kernel
theorem dL_breaks_54 : decode cL_breaks 54 = .ok (.iload 8, 2) := by decide +kernel
theorem dL_breaks_56 : decode cL_breaks 56 = .ok (.imul, 1) := by decide +kernel
theorem dL_breaks_57 : decode cL_breaks 57 = .ok (.bipush 25, 2) := by decide +kernel
theorem dL_breaks_59 : decode cL_breaks 59 = .ok (.if_icmp .le 7, 3) := by decide +kernel
theorem dL_breaks_62 : decode cL_breaks 62 = .ok (.iconst 1, 1) := by decide +kernel
theorem dL_breaks_63 : decode cL_breaks 63 = .ok (.goto 4, 3) := by decide +kernel
theorem dL_breaks_66 : decode cL_breaks 66 = .ok (.iconst 0, 1) := by decide +kernel
theorem dL_breaks_67 : decode cL_breaks 67 = .ok (.ireturn, 1) := by decide +kernel
theorem dL_breaks_68 : decode cL_breaks 68 = .ok (.aload_n 2, 1) := by decide +kernel
theorem dL_breaks_69 : decode cL_breaks 69 = .ok (.iload 5, 2) := by decide +kernel
theorem dL_breaks_71 : decode cL_breaks 71 = .ok (.iaload, 1) := by decide +kernel
theorem dL_breaks_72 : decode cL_breaks 72 = .ok (.aload_n 2, 1) := by decide +kernel
theorem dL_breaks_73 : decode cL_breaks 73 = .ok (.iload 5, 2) := by decide +kernel
theorem dL_breaks_75 : decode cL_breaks 75 = .ok (.iaload, 1) := by decide +kernel
theorem dL_breaks_76 : decode cL_breaks 76 = .ok (.iload 6, 2) := by decide +kernel
theorem dL_breaks_78 : decode cL_breaks 78 = .ok (.iload 4, 2) := by decide +kernel
theorem dL_breaks_80 : decode cL_breaks 80 = .ok (.aload_n 3, 1) := by decide +kernel
theorem dL_breaks_81 : decode cL_breaks 81 = .ok (.iload 5, 2) := by decide +kernel
theorem dL_breaks_83 : decode cL_breaks 83 = .ok (.iaload, 1) := by decide +kernel
theorem dL_breaks_84 : decode cL_breaks 84 = .ok (.isub, 1) := by decide +kernel
theorem dL_breaks_85 : decode cL_breaks 85 = .ok (.invokestatic 22, 3) := by decide +kernel
theorem dL_breaks_88 : decode cL_breaks 88 = .ok (.iadd, 1) := by decide +kernel
theorem dL_breaks_89 : decode cL_breaks 89 = .ok (.istore 8, 2) := by decide +kernel
theorem dL_breaks_91 : decode cL_breaks 91 = .ok (.aload_n 0, 1) := by decide +kernel
theorem dL_breaks_92 : decode cL_breaks 92 = .ok (.iconst 5, 1) := by decide +kernel
theorem dL_breaks_93 : decode cL_breaks 93 = .ok (.iload_n 1, 1) := by decide +kernel
theorem dL_breaks_94 : decode cL_breaks 94 = .ok (.imul, 1) := by decide +kernel
theorem dL_breaks_95 : decode cL_breaks 95 = .ok (.iaload, 1) := by decide +kernel
theorem dL_breaks_96 : decode cL_breaks 96 = .ok (.iconst 2, 1) := by decide +kernel
theorem dL_breaks_97 : decode cL_breaks 97 = .ok (.if_icmp .ne 24, 3) := by decide +kernel
theorem dL_breaks_100 : decode cL_breaks 100 = .ok (.iload 8, 2) := by decide +kernel
theorem dL_breaks_102 : decode cL_breaks 102 = .ok (.iconst 2, 1) := by decide +kernel
theorem dL_breaks_103 : decode cL_breaks 103 = .ok (.aload_n 0, 1) := by decide +kernel
theorem dL_breaks_104 : decode cL_breaks 104 = .ok (.iconst 5, 1) := by decide +kernel
theorem dL_breaks_105 : decode cL_breaks 105 = .ok (.iload_n 1, 1) := by decide +kernel
theorem dL_breaks_106 : decode cL_breaks 106 = .ok (.imul, 1) := by decide +kernel
theorem dL_breaks_107 : decode cL_breaks 107 = .ok (.iconst 3, 1) := by decide +kernel
theorem dL_breaks_108 : decode cL_breaks 108 = .ok (.iadd, 1) := by decide +kernel
theorem dL_breaks_109 : decode cL_breaks 109 = .ok (.iaload, 1) := by decide +kernel
theorem dL_breaks_110 : decode cL_breaks 110 = .ok (.imul, 1) := by decide +kernel
theorem dL_breaks_111 : decode cL_breaks 111 = .ok (.iadd, 1) := by decide +kernel
theorem dL_breaks_112 : decode cL_breaks 112 = .ok (.iload 7, 2) := by decide +kernel
theorem dL_breaks_114 : decode cL_breaks 114 = .ok (.if_icmp .ge 7, 3) := by decide +kernel
theorem dL_breaks_117 : decode cL_breaks 117 = .ok (.iconst 1, 1) := by decide +kernel
theorem dL_breaks_118 : decode cL_breaks 118 = .ok (.goto 4, 3) := by decide +kernel
theorem dL_breaks_121 : decode cL_breaks 121 = .ok (.iconst 0, 1) := by decide +kernel
theorem dL_breaks_122 : decode cL_breaks 122 = .ok (.ireturn, 1) := by decide +kernel
theorem dL_law_0 : decode cL_law 0 = .ok (.new 8, 3) := by decide +kernel
theorem dL_law_3 : decode cL_law 3 = .ok (.dup, 1) := by decide +kernel
theorem dL_law_4 : decode cL_law 4 = .ok (.invokespecial 28, 3) := by decide +kernel
theorem dL_law_7 : decode cL_law 7 = .ok (.astore_n 1, 1) := by decide +kernel
theorem dL_law_8 : decode cL_law 8 = .ok (.bipush 12, 2) := by decide +kernel
theorem dL_law_10 : decode cL_law 10 = .ok (.newarray .int, 2) := by decide +kernel
theorem dL_law_12 : decode cL_law 12 = .ok (.astore_n 2, 1) := by decide +kernel
theorem dL_law_13 : decode cL_law 13 = .ok (.iconst 3, 1) := by decide +kernel
theorem dL_law_14 : decode cL_law 14 = .ok (.newarray .int, 2) := by decide +kernel
theorem dL_law_16 : decode cL_law 16 = .ok (.astore_n 3, 1) := by decide +kernel
theorem dL_law_17 : decode cL_law 17 = .ok (.bipush 6, 2) := by decide +kernel
theorem dL_law_19 : decode cL_law 19 = .ok (.newarray .int, 2) := by decide +kernel
theorem dL_law_21 : decode cL_law 21 = .ok (.astore 4, 2) := by decide +kernel
theorem dL_law_23 : decode cL_law 23 = .ok (.bipush 6, 2) := by decide +kernel
theorem dL_law_25 : decode cL_law 25 = .ok (.newarray .int, 2) := by decide +kernel
theorem dL_law_27 : decode cL_law 27 = .ok (.astore 5, 2) := by decide +kernel
theorem dL_law_29 : decode cL_law 29 = .ok (.bipush 6, 2) := by decide +kernel
theorem dL_law_31 : decode cL_law 31 = .ok (.newarray .int, 2) := by decide +kernel
theorem dL_law_33 : decode cL_law 33 = .ok (.astore 6, 2) := by decide +kernel
theorem dL_law_35 : decode cL_law 35 = .ok (.bipush 6, 2) := by decide +kernel
theorem dL_law_37 : decode cL_law 37 = .ok (.newarray .int, 2) := by decide +kernel
theorem dL_law_39 : decode cL_law 39 = .ok (.astore 7, 2) := by decide +kernel
theorem dL_law_41 : decode cL_law 41 = .ok (.bipush 60, 2) := by decide +kernel
theorem dL_law_43 : decode cL_law 43 = .ok (.newarray .int, 2) := by decide +kernel
theorem dL_law_45 : decode cL_law 45 = .ok (.astore 8, 2) := by decide +kernel
theorem dL_law_47 : decode cL_law 47 = .ok (.bipush 12, 2) := by decide +kernel
theorem dL_law_49 : decode cL_law 49 = .ok (.newarray .int, 2) := by decide +kernel
theorem dL_law_51 : decode cL_law 51 = .ok (.astore 9, 2) := by decide +kernel
theorem dL_law_53 : decode cL_law 53 = .ok (.bipush 6, 2) := by decide +kernel
theorem dL_law_55 : decode cL_law 55 = .ok (.newarray .int, 2) := by decide +kernel
theorem dL_law_57 : decode cL_law 57 = .ok (.astore 10, 2) := by decide +kernel
theorem dL_law_59 : decode cL_law 59 = .ok (.bipush 12, 2) := by decide +kernel
theorem dL_law_61 : decode cL_law 61 = .ok (.newarray .int, 2) := by decide +kernel
theorem dL_law_63 : decode cL_law 63 = .ok (.astore 11, 2) := by decide +kernel
theorem dL_law_65 : decode cL_law 65 = .ok (.iconst 1, 1) := by decide +kernel
theorem dL_law_66 : decode cL_law 66 = .ok (.istore 12, 2) := by decide +kernel
theorem dL_law_68 : decode cL_law 68 = .ok (.iconst 0, 1) := by decide +kernel
theorem dL_law_69 : decode cL_law 69 = .ok (.istore 13, 2) := by decide +kernel
theorem dL_law_71 : decode cL_law 71 = .ok (.iload 13, 2) := by decide +kernel
theorem dL_law_73 : decode cL_law 73 = .ok (.bipush 12, 2) := by decide +kernel
theorem dL_law_75 : decode cL_law 75 = .ok (.if_icmp .ge 15, 3) := by decide +kernel
theorem dL_law_78 : decode cL_law 78 = .ok (.aload_n 2, 1) := by decide +kernel
theorem dL_law_79 : decode cL_law 79 = .ok (.iload 13, 2) := by decide +kernel
theorem dL_law_81 : decode cL_law 81 = .ok (.bipush 100, 2) := by decide +kernel
theorem dL_law_83 : decode cL_law 83 = .ok (.iastore, 1) := by decide +kernel
theorem dL_law_84 : decode cL_law 84 = .ok (.iinc 13 1, 3) := by decide +kernel
theorem dL_law_87 : decode cL_law 87 = .ok (.goto (-16), 3) := by decide +kernel
theorem dL_law_90 : decode cL_law 90 = .ok (.iconst 0, 1) := by decide +kernel
theorem dL_law_91 : decode cL_law 91 = .ok (.istore 13, 2) := by decide +kernel
theorem dL_law_93 : decode cL_law 93 = .ok (.iload 13, 2) := by decide +kernel
theorem dL_law_95 : decode cL_law 95 = .ok (.iconst 3, 1) := by decide +kernel
theorem dL_law_96 : decode cL_law 96 = .ok (.if_icmp .ge 68, 3) := by decide +kernel
theorem dL_law_99 : decode cL_law 99 = .ok (.aload_n 3, 1) := by decide +kernel
theorem dL_law_100 : decode cL_law 100 = .ok (.iload 13, 2) := by decide +kernel
theorem dL_law_102 : decode cL_law 102 = .ok (.bipush 40, 2) := by decide +kernel
theorem dL_law_104 : decode cL_law 104 = .ok (.aload_n 0, 1) := by decide +kernel
theorem dL_law_105 : decode cL_law 105 = .ok (.bipush 60, 2) := by decide +kernel
theorem dL_law_107 : decode cL_law 107 = .ok (.iload 13, 2) := by decide +kernel
theorem dL_law_109 : decode cL_law 109 = .ok (.iadd, 1) := by decide +kernel
theorem dL_law_110 : decode cL_law 110 = .ok (.invokestatic 29, 3) := by decide +kernel
theorem dL_law_113 : decode cL_law 113 = .ok (.sipush 261, 3) := by decide +kernel
theorem dL_law_116 : decode cL_law 116 = .ok (.invokestatic 33, 3) := by decide +kernel
theorem dL_law_119 : decode cL_law 119 = .ok (.iadd, 1) := by decide +kernel
theorem dL_law_120 : decode cL_law 120 = .ok (.iastore, 1) := by decide +kernel
theorem dL_law_121 : decode cL_law 121 = .ok (.iload 12, 2) := by decide +kernel
theorem dL_law_123 : decode cL_law 123 = .ok (.ifCond .eq 32, 3) := by decide +kernel
theorem dL_law_126 : decode cL_law 126 = .ok (.aload_n 1, 1) := by decide +kernel
theorem dL_law_127 : decode cL_law 127 = .ok (.iload 13, 2) := by decide +kernel
theorem dL_law_129 : decode cL_law 129 = .ok (.iload 13, 2) := by decide +kernel
theorem dL_law_131 : decode cL_law 131 = .ok (.iload 13, 2) := by decide +kernel
theorem dL_law_133 : decode cL_law 133 = .ok (.sipush 6000, 3) := by decide +kernel
theorem dL_law_136 : decode cL_law 136 = .ok (.sipush 3000, 3) := by decide +kernel
theorem dL_law_139 : decode cL_law 139 = .ok (.aload_n 3, 1) := by decide +kernel
theorem dL_law_140 : decode cL_law 140 = .ok (.iload 13, 2) := by decide +kernel
theorem dL_law_142 : decode cL_law 142 = .ok (.iaload, 1) := by decide +kernel
theorem dL_law_143 : decode cL_law 143 = .ok (.invokevirtual 36, 3) := by decide +kernel
theorem dL_law_146 : decode cL_law 146 = .ok (.iload 13, 2) := by decide +kernel
theorem dL_law_148 : decode cL_law 148 = .ok (.if_icmp .ne 7, 3) := by decide +kernel
theorem dL_law_151 : decode cL_law 151 = .ok (.iconst 1, 1) := by decide +kernel
theorem dL_law_152 : decode cL_law 152 = .ok (.goto 4, 3) := by decide +kernel
theorem dL_law_155 : decode cL_law 155 = .ok (.iconst 0, 1) := by decide +kernel
theorem dL_law_156 : decode cL_law 156 = .ok (.istore 12, 2) := by decide +kernel
theorem dL_law_158 : decode cL_law 158 = .ok (.iinc 13 1, 3) := by decide +kernel
theorem dL_law_161 : decode cL_law 161 = .ok (.goto (-68), 3) := by decide +kernel
theorem dL_law_164 : decode cL_law 164 = .ok (.iconst 0, 1) := by decide +kernel
theorem dL_law_165 : decode cL_law 165 = .ok (.istore 13, 2) := by decide +kernel
theorem dL_law_167 : decode cL_law 167 = .ok (.iload 13, 2) := by decide +kernel
theorem dL_law_169 : decode cL_law 169 = .ok (.bipush 6, 2) := by decide +kernel
theorem dL_law_171 : decode cL_law 171 = .ok (.if_icmp .ge 107, 3) := by decide +kernel
theorem dL_law_174 : decode cL_law 174 = .ok (.aload 4, 2) := by decide +kernel
theorem dL_law_176 : decode cL_law 176 = .ok (.iload 13, 2) := by decide +kernel
theorem dL_law_178 : decode cL_law 178 = .ok (.aload_n 3, 1) := by decide +kernel
theorem dL_law_179 : decode cL_law 179 = .ok (.iload 13, 2) := by decide +kernel
theorem dL_law_181 : decode cL_law 181 = .ok (.iconst 3, 1) := by decide +kernel
theorem dL_law_182 : decode cL_law 182 = .ok (.irem, 1) := by decide +kernel
theorem dL_law_183 : decode cL_law 183 = .ok (.iaload, 1) := by decide +kernel
theorem dL_law_184 : decode cL_law 184 = .ok (.iastore, 1) := by decide +kernel
theorem dL_law_185 : decode cL_law 185 = .ok (.aload 6, 2) := by decide +kernel
theorem dL_law_187 : decode cL_law 187 = .ok (.iload 13, 2) := by decide +kernel
theorem dL_law_189 : decode cL_law 189 = .ok (.aload 4, 2) := by decide +kernel
theorem dL_law_191 : decode cL_law 191 = .ok (.iload 13, 2) := by decide +kernel
theorem dL_law_193 : decode cL_law 193 = .ok (.iaload, 1) := by decide +kernel
theorem dL_law_194 : decode cL_law 194 = .ok (.iastore, 1) := by decide +kernel
theorem dL_law_195 : decode cL_law 195 = .ok (.aload 5, 2) := by decide +kernel
theorem dL_law_197 : decode cL_law 197 = .ok (.iload 13, 2) := by decide +kernel
theorem dL_law_199 : decode cL_law 199 = .ok (.sipush 1000, 3) := by decide +kernel
theorem dL_law_202 : decode cL_law 202 = .ok (.aload_n 0, 1) := by decide +kernel
theorem dL_law_203 : decode cL_law 203 = .ok (.bipush 70, 2) := by decide +kernel
theorem dL_law_205 : decode cL_law 205 = .ok (.iload 13, 2) := by decide +kernel
theorem dL_law_207 : decode cL_law 207 = .ok (.iadd, 1) := by decide +kernel
theorem dL_law_208 : decode cL_law 208 = .ok (.invokestatic 29, 3) := by decide +kernel
theorem dL_law_211 : decode cL_law 211 = .ok (.sipush 4001, 3) := by decide +kernel
theorem dL_law_214 : decode cL_law 214 = .ok (.invokestatic 33, 3) := by decide +kernel
theorem dL_law_217 : decode cL_law 217 = .ok (.iadd, 1) := by decide +kernel
theorem dL_law_218 : decode cL_law 218 = .ok (.iastore, 1) := by decide +kernel
theorem dL_law_219 : decode cL_law 219 = .ok (.iload 12, 2) := by decide +kernel
theorem dL_law_221 : decode cL_law 221 = .ok (.ifCond .eq 48, 3) := by decide +kernel
theorem dL_law_224 : decode cL_law 224 = .ok (.aload_n 1, 1) := by decide +kernel
theorem dL_law_225 : decode cL_law 225 = .ok (.iload 13, 2) := by decide +kernel
theorem dL_law_227 : decode cL_law 227 = .ok (.iconst 3, 1) := by decide +kernel
theorem dL_law_228 : decode cL_law 228 = .ok (.irem, 1) := by decide +kernel
theorem dL_law_229 : decode cL_law 229 = .ok (.bipush 100, 2) := by decide +kernel
theorem dL_law_231 : decode cL_law 231 = .ok (.sipush 400, 3) := by decide +kernel
theorem dL_law_234 : decode cL_law 234 = .ok (.iload 13, 2) := by decide +kernel
theorem dL_law_236 : decode cL_law 236 = .ok (.imul, 1) := by decide +kernel
theorem dL_law_237 : decode cL_law 237 = .ok (.iadd, 1) := by decide +kernel
theorem dL_law_238 : decode cL_law 238 = .ok (.sipush 200, 3) := by decide +kernel
theorem dL_law_241 : decode cL_law 241 = .ok (.aload 5, 2) := by decide +kernel
theorem dL_law_243 : decode cL_law 243 = .ok (.iload 13, 2) := by decide +kernel
theorem dL_law_245 : decode cL_law 245 = .ok (.iaload, 1) := by decide +kernel
theorem dL_law_246 : decode cL_law 246 = .ok (.iconst 1, 1) := by decide +kernel
theorem dL_law_247 : decode cL_law 247 = .ok (.invokevirtual 40, 3) := by decide +kernel
theorem dL_law_250 : decode cL_law 250 = .ok (.iload 13, 2) := by decide +kernel
theorem dL_law_252 : decode cL_law 252 = .ok (.if_icmp .ne 17, 3) := by decide +kernel
theorem dL_law_255 : decode cL_law 255 = .ok (.aload_n 1, 1) := by decide +kernel
theorem dL_law_256 : decode cL_law 256 = .ok (.iconst 0, 1) := by decide +kernel
theorem dL_law_257 : decode cL_law 257 = .ok (.invokevirtual 44, 3) := by decide +kernel
theorem dL_law_260 : decode cL_law 260 = .ok (.bipush 98, 2) := by decide +kernel
theorem dL_law_262 : decode cL_law 262 = .ok (.if_icmp .gt 7, 3) := by decide +kernel
theorem dL_law_265 : decode cL_law 265 = .ok (.iconst 1, 1) := by decide +kernel
theorem dL_law_266 : decode cL_law 266 = .ok (.goto 4, 3) := by decide +kernel
theorem dL_law_269 : decode cL_law 269 = .ok (.iconst 0, 1) := by decide +kernel
theorem dL_law_270 : decode cL_law 270 = .ok (.istore 12, 2) := by decide +kernel
theorem dL_law_272 : decode cL_law 272 = .ok (.iinc 13 1, 3) := by decide +kernel
theorem dL_law_275 : decode cL_law 275 = .ok (.goto (-108), 3) := by decide +kernel
theorem dL_law_278 : decode cL_law 278 = .ok (.iconst 0, 1) := by decide +kernel
theorem dL_law_279 : decode cL_law 279 = .ok (.istore 13, 2) := by decide +kernel
theorem dL_law_281 : decode cL_law 281 = .ok (.iconst 0, 1) := by decide +kernel
theorem dL_law_282 : decode cL_law 282 = .ok (.istore 14, 2) := by decide +kernel
theorem dL_law_284 : decode cL_law 284 = .ok (.iconst 0, 1) := by decide +kernel
theorem dL_law_285 : decode cL_law 285 = .ok (.istore 15, 2) := by decide +kernel
theorem dL_law_287 : decode cL_law 287 = .ok (.iload 15, 2) := by decide +kernel
theorem dL_law_289 : decode cL_law 289 = .ok (.bipush 40, 2) := by decide +kernel
theorem dL_law_291 : decode cL_law 291 = .ok (.if_icmp .ge 1523, 3) := by decide +kernel
theorem dL_law_294 : decode cL_law 294 = .ok (.iload 12, 2) := by decide +kernel
theorem dL_law_296 : decode cL_law 296 = .ok (.ifCond .eq 1518, 3) := by decide +kernel
theorem dL_law_299 : decode cL_law 299 = .ok (.aload_n 0, 1) := by decide +kernel
theorem dL_law_300 : decode cL_law 300 = .ok (.iload 15, 2) := by decide +kernel
theorem dL_law_302 : decode cL_law 302 = .ok (.invokestatic 29, 3) := by decide +kernel
theorem dL_law_305 : decode cL_law 305 = .ok (.istore 16, 2) := by decide +kernel
theorem dL_law_307 : decode cL_law 307 = .ok (.iload 16, 2) := by decide +kernel
theorem dL_law_309 : decode cL_law 309 = .ok (.bipush 9, 2) := by decide +kernel
theorem dL_law_311 : decode cL_law 311 = .ok (.invokestatic 33, 3) := by decide +kernel
theorem dL_law_314 : decode cL_law 314 = .ok (.istore 17, 2) := by decide +kernel
theorem dL_law_316 : decode cL_law 316 = .ok (.iload 16, 2) := by decide +kernel
theorem dL_law_318 : decode cL_law 318 = .ok (.bipush 16, 2) := by decide +kernel
theorem dL_law_320 : decode cL_law 320 = .ok (.idiv, 1) := by decide +kernel
theorem dL_law_321 : decode cL_law 321 = .ok (.bipush 6, 2) := by decide +kernel
theorem dL_law_323 : decode cL_law 323 = .ok (.invokestatic 33, 3) := by decide +kernel
theorem dL_law_326 : decode cL_law 326 = .ok (.istore 18, 2) := by decide +kernel
theorem dL_law_328 : decode cL_law 328 = .ok (.aload 5, 2) := by decide +kernel
theorem dL_law_330 : decode cL_law 330 = .ok (.iload 18, 2) := by decide +kernel
theorem dL_law_332 : decode cL_law 332 = .ok (.iaload, 1) := by decide +kernel
theorem dL_law_333 : decode cL_law 333 = .ok (.aload 5, 2) := by decide +kernel
theorem dL_law_335 : decode cL_law 335 = .ok (.iload 18, 2) := by decide +kernel
theorem dL_law_337 : decode cL_law 337 = .ok (.iaload, 1) := by decide +kernel
theorem dL_law_338 : decode cL_law 338 = .ok (.iload 18, 2) := by decide +kernel
theorem dL_law_340 : decode cL_law 340 = .ok (.iconst 3, 1) := by decide +kernel
theorem dL_law_341 : decode cL_law 341 = .ok (.irem, 1) := by decide +kernel
theorem dL_law_342 : decode cL_law 342 = .ok (.aload 6, 2) := by decide +kernel
theorem dL_law_344 : decode cL_law 344 = .ok (.iload 18, 2) := by decide +kernel
theorem dL_law_346 : decode cL_law 346 = .ok (.iaload, 1) := by decide +kernel
theorem dL_law_347 : decode cL_law 347 = .ok (.aload 4, 2) := by decide +kernel
theorem dL_law_349 : decode cL_law 349 = .ok (.iload 18, 2) := by decide +kernel
theorem dL_law_351 : decode cL_law 351 = .ok (.iaload, 1) := by decide +kernel
theorem dL_law_352 : decode cL_law 352 = .ok (.isub, 1) := by decide +kernel
theorem dL_law_353 : decode cL_law 353 = .ok (.invokestatic 22, 3) := by decide +kernel
theorem dL_law_356 : decode cL_law 356 = .ok (.iadd, 1) := by decide +kernel
theorem dL_law_357 : decode cL_law 357 = .ok (.istore 19, 2) := by decide +kernel
theorem dL_law_359 : decode cL_law 359 = .ok (.iload 17, 2) := by decide +kernel
theorem dL_law_361 : decode cL_law 361 = .ok (.ifCond .ne 64, 3) := by decide +kernel
theorem dL_law_364 : decode cL_law 364 = .ok (.iload 16, 2) := by decide +kernel
theorem dL_law_366 : decode cL_law 366 = .ok (.sipush 128, 3) := by decide +kernel
theorem dL_law_369 : decode cL_law 369 = .ok (.idiv, 1) := by decide +kernel
theorem dL_law_370 : decode cL_law 370 = .ok (.bipush 12, 2) := by decide +kernel
theorem dL_law_372 : decode cL_law 372 = .ok (.invokestatic 33, 3) := by decide +kernel
theorem dL_law_375 : decode cL_law 375 = .ok (.istore 20, 2) := by decide +kernel
theorem dL_law_377 : decode cL_law 377 = .ok (.bipush 40, 2) := by decide +kernel
theorem dL_law_379 : decode cL_law 379 = .ok (.iload 16, 2) := by decide +kernel
theorem dL_law_381 : decode cL_law 381 = .ok (.sipush 2048, 3) := by decide +kernel
theorem dL_law_384 : decode cL_law 384 = .ok (.idiv, 1) := by decide +kernel
theorem dL_law_385 : decode cL_law 385 = .ok (.sipush 261, 3) := by decide +kernel
theorem dL_law_388 : decode cL_law 388 = .ok (.invokestatic 33, 3) := by decide +kernel
theorem dL_law_391 : decode cL_law 391 = .ok (.iadd, 1) := by decide +kernel
theorem dL_law_392 : decode cL_law 392 = .ok (.istore 21, 2) := by decide +kernel
theorem dL_law_394 : decode cL_law 394 = .ok (.aload_n 1, 1) := by decide +kernel
theorem dL_law_395 : decode cL_law 395 = .ok (.iload 20, 2) := by decide +kernel
theorem dL_law_397 : decode cL_law 397 = .ok (.iload 21, 2) := by decide +kernel
theorem dL_law_399 : decode cL_law 399 = .ok (.invokevirtual 47, 3) := by decide +kernel
theorem dL_law_402 : decode cL_law 402 = .ok (.aload_n 2, 1) := by decide +kernel
theorem dL_law_403 : decode cL_law 403 = .ok (.iload 20, 2) := by decide +kernel
theorem dL_law_405 : decode cL_law 405 = .ok (.iaload, 1) := by decide +kernel
theorem dL_law_406 : decode cL_law 406 = .ok (.if_icmp .ne 7, 3) := by decide +kernel
theorem dL_law_409 : decode cL_law 409 = .ok (.iconst 1, 1) := by decide +kernel
theorem dL_law_410 : decode cL_law 410 = .ok (.goto 4, 3) := by decide +kernel
theorem dL_law_413 : decode cL_law 413 = .ok (.iconst 0, 1) := by decide +kernel
theorem dL_law_414 : decode cL_law 414 = .ok (.istore 12, 2) := by decide +kernel
theorem dL_law_416 : decode cL_law 416 = .ok (.aload_n 2, 1) := by decide +kernel
theorem dL_law_417 : decode cL_law 417 = .ok (.iload 20, 2) := by decide +kernel
theorem dL_law_419 : decode cL_law 419 = .ok (.iload 21, 2) := by decide +kernel
theorem dL_law_421 : decode cL_law 421 = .ok (.iastore, 1) := by decide +kernel
theorem dL_law_422 : decode cL_law 422 = .ok (.goto 842, 3) := by decide +kernel
theorem dL_law_425 : decode cL_law 425 = .ok (.iload 17, 2) := by decide +kernel
theorem dL_law_427 : decode cL_law 427 = .ok (.iconst 1, 1) := by decide +kernel
theorem dL_law_428 : decode cL_law 428 = .ok (.if_icmp .ne 46, 3) := by decide +kernel
theorem dL_law_431 : decode cL_law 431 = .ok (.aload 7, 2) := by decide +kernel
theorem dL_law_433 : decode cL_law 433 = .ok (.iload 18, 2) := by decide +kernel
theorem dL_law_435 : decode cL_law 435 = .ok (.iaload, 1) := by decide +kernel
theorem dL_law_436 : decode cL_law 436 = .ok (.bipush 6, 2) := by decide +kernel
theorem dL_law_438 : decode cL_law 438 = .ok (.if_icmp .ge 36, 3) := by decide +kernel
theorem dL_law_441 : decode cL_law 441 = .ok (.aload 7, 2) := by decide +kernel
theorem dL_law_443 : decode cL_law 443 = .ok (.iload 18, 2) := by decide +kernel
theorem dL_law_445 : decode cL_law 445 = .ok (.dup2, 1) := by decide +kernel
theorem dL_law_446 : decode cL_law 446 = .ok (.iaload, 1) := by decide +kernel
theorem dL_law_447 : decode cL_law 447 = .ok (.iconst 1, 1) := by decide +kernel
theorem dL_law_448 : decode cL_law 448 = .ok (.iadd, 1) := by decide +kernel
theorem dL_law_449 : decode cL_law 449 = .ok (.iastore, 1) := by decide +kernel
theorem dL_law_450 : decode cL_law 450 = .ok (.aload_n 1, 1) := by decide +kernel
theorem dL_law_451 : decode cL_law 451 = .ok (.iload 18, 2) := by decide +kernel
theorem dL_law_453 : decode cL_law 453 = .ok (.invokevirtual 50, 3) := by decide +kernel
theorem dL_law_456 : decode cL_law 456 = .ok (.aload 7, 2) := by decide +kernel
theorem dL_law_458 : decode cL_law 458 = .ok (.iload 18, 2) := by decide +kernel
theorem dL_law_460 : decode cL_law 460 = .ok (.iaload, 1) := by decide +kernel
theorem dL_law_461 : decode cL_law 461 = .ok (.if_icmp .ne 7, 3) := by decide +kernel
theorem dL_law_464 : decode cL_law 464 = .ok (.iconst 1, 1) := by decide +kernel
theorem dL_law_465 : decode cL_law 465 = .ok (.goto 4, 3) := by decide +kernel
theorem dL_law_468 : decode cL_law 468 = .ok (.iconst 0, 1) := by decide +kernel
theorem dL_law_469 : decode cL_law 469 = .ok (.istore 12, 2) := by decide +kernel
theorem dL_law_471 : decode cL_law 471 = .ok (.goto 793, 3) := by decide +kernel
theorem dL_law_474 : decode cL_law 474 = .ok (.iload 17, 2) := by decide +kernel
theorem dL_law_476 : decode cL_law 476 = .ok (.iconst 4, 1) := by decide +kernel
theorem dL_law_477 : decode cL_law 477 = .ok (.if_icmp .ge 177, 3) := by decide +kernel
theorem dL_law_480 : decode cL_law 480 = .ok (.iload 13, 2) := by decide +kernel
theorem dL_law_482 : decode cL_law 482 = .ok (.bipush 12, 2) := by decide +kernel
theorem dL_law_484 : decode cL_law 484 = .ok (.if_icmp .ge 170, 3) := by decide +kernel
theorem dL_law_487 : decode cL_law 487 = .ok (.iload 16, 2) := by decide +kernel
theorem dL_law_489 : decode cL_law 489 = .ok (.sipush 128, 3) := by decide +kernel
theorem dL_law_492 : decode cL_law 492 = .ok (.idiv, 1) := by decide +kernel
theorem dL_law_493 : decode cL_law 493 = .ok (.iconst 3, 1) := by decide +kernel
theorem dL_law_494 : decode cL_law 494 = .ok (.invokestatic 33, 3) := by decide +kernel
theorem dL_law_497 : decode cL_law 497 = .ok (.istore 20, 2) := by decide +kernel
theorem dL_law_499 : decode cL_law 499 = .ok (.iload 20, 2) := by decide +kernel
theorem dL_law_501 : decode cL_law 501 = .ok (.iconst 2, 1) := by decide +kernel
theorem dL_law_502 : decode cL_law 502 = .ok (.if_icmp .ne 19, 3) := by decide +kernel
theorem dL_law_505 : decode cL_law 505 = .ok (.iconst 1, 1) := by decide +kernel
theorem dL_law_506 : decode cL_law 506 = .ok (.iload 16, 2) := by decide +kernel
theorem dL_law_508 : decode cL_law 508 = .ok (.sipush 512, 3) := by decide +kernel
theorem dL_law_511 : decode cL_law 511 = .ok (.idiv, 1) := by decide +kernel
theorem dL_law_512 : decode cL_law 512 = .ok (.bipush 60, 2) := by decide +kernel
theorem dL_law_514 : decode cL_law 514 = .ok (.invokestatic 33, 3) := by decide +kernel
theorem dL_law_517 : decode cL_law 517 = .ok (.iadd, 1) := by decide +kernel
theorem dL_law_518 : decode cL_law 518 = .ok (.goto 4, 3) := by decide +kernel
theorem dL_law_521 : decode cL_law 521 = .ok (.iconst 0, 1) := by decide +kernel
theorem dL_law_522 : decode cL_law 522 = .ok (.istore 21, 2) := by decide +kernel
theorem dL_law_524 : decode cL_law 524 = .ok (.iload 20, 2) := by decide +kernel
theorem dL_law_526 : decode cL_law 526 = .ok (.ifCond .ne 8, 3) := by decide +kernel
theorem dL_law_529 : decode cL_law 529 = .ok (.bipush 100, 2) := by decide +kernel
theorem dL_law_531 : decode cL_law 531 = .ok (.goto 32, 3) := by decide +kernel
theorem dL_law_534 : decode cL_law 534 = .ok (.iload 20, 2) := by decide +kernel
theorem dL_law_536 : decode cL_law 536 = .ok (.iconst 1, 1) := by decide +kernel
theorem dL_law_537 : decode cL_law 537 = .ok (.if_icmp .ne 8, 3) := by decide +kernel
theorem dL_law_540 : decode cL_law 540 = .ok (.iload 19, 2) := by decide +kernel
theorem dL_law_542 : decode cL_law 542 = .ok (.goto 21, 3) := by decide +kernel
theorem dL_law_545 : decode cL_law 545 = .ok (.iload 19, 2) := by decide +kernel
theorem dL_law_547 : decode cL_law 547 = .ok (.iload 16, 2) := by decide +kernel
theorem dL_law_549 : decode cL_law 549 = .ok (.sipush 2048, 3) := by decide +kernel
theorem dL_law_552 : decode cL_law 552 = .ok (.idiv, 1) := by decide +kernel
theorem dL_law_553 : decode cL_law 553 = .ok (.iconst 2, 1) := by decide +kernel
theorem dL_law_554 : decode cL_law 554 = .ok (.iload 21, 2) := by decide +kernel
theorem dL_law_556 : decode cL_law 556 = .ok (.imul, 1) := by decide +kernel
theorem dL_law_557 : decode cL_law 557 = .ok (.iconst 1, 1) := by decide +kernel
theorem dL_law_558 : decode cL_law 558 = .ok (.iadd, 1) := by decide +kernel
theorem dL_law_559 : decode cL_law 559 = .ok (.invokestatic 33, 3) := by decide +kernel
theorem dL_law_562 : decode cL_law 562 = .ok (.iadd, 1) := by decide +kernel
theorem dL_law_563 : decode cL_law 563 = .ok (.istore 22, 2) := by decide +kernel
theorem dL_law_565 : decode cL_law 565 = .ok (.aload_n 1, 1) := by decide +kernel
theorem dL_law_566 : decode cL_law 566 = .ok (.iconst 1, 1) := by decide +kernel
theorem dL_law_567 : decode cL_law 567 = .ok (.invokevirtual 44, 3) := by decide +kernel
theorem dL_law_570 : decode cL_law 570 = .ok (.bipush 100, 2) := by decide +kernel
theorem dL_law_572 : decode cL_law 572 = .ok (.if_icmp .gt 31, 3) := by decide +kernel
theorem dL_law_575 : decode cL_law 575 = .ok (.aload_n 1, 1) := by decide +kernel
theorem dL_law_576 : decode cL_law 576 = .ok (.iload 20, 2) := by decide +kernel
theorem dL_law_578 : decode cL_law 578 = .ok (.iload 18, 2) := by decide +kernel
theorem dL_law_580 : decode cL_law 580 = .ok (.iload 18, 2) := by decide +kernel
theorem dL_law_582 : decode cL_law 582 = .ok (.iconst 1, 1) := by decide +kernel
theorem dL_law_583 : decode cL_law 583 = .ok (.iadd, 1) := by decide +kernel
theorem dL_law_584 : decode cL_law 584 = .ok (.bipush 6, 2) := by decide +kernel
theorem dL_law_586 : decode cL_law 586 = .ok (.irem, 1) := by decide +kernel
theorem dL_law_587 : decode cL_law 587 = .ok (.iload 22, 2) := by decide +kernel
theorem dL_law_589 : decode cL_law 589 = .ok (.iload 21, 2) := by decide +kernel
theorem dL_law_591 : decode cL_law 591 = .ok (.invokevirtual 53, 3) := by decide +kernel
theorem dL_law_594 : decode cL_law 594 = .ok (.iload 13, 2) := by decide +kernel
theorem dL_law_596 : decode cL_law 596 = .ok (.if_icmp .ne 7, 3) := by decide +kernel
theorem dL_law_599 : decode cL_law 599 = .ok (.iconst 1, 1) := by decide +kernel
theorem dL_law_600 : decode cL_law 600 = .ok (.goto 4, 3) := by decide +kernel
theorem dL_law_603 : decode cL_law 603 = .ok (.iconst 0, 1) := by decide +kernel
theorem dL_law_604 : decode cL_law 604 = .ok (.istore 12, 2) := by decide +kernel
theorem dL_law_606 : decode cL_law 606 = .ok (.aload 8, 2) := by decide +kernel
theorem dL_law_608 : decode cL_law 608 = .ok (.iconst 5, 1) := by decide +kernel
theorem dL_law_609 : decode cL_law 609 = .ok (.iload 13, 2) := by decide +kernel
theorem dL_law_611 : decode cL_law 611 = .ok (.imul, 1) := by decide +kernel
theorem dL_law_612 : decode cL_law 612 = .ok (.iload 20, 2) := by decide +kernel
theorem dL_law_614 : decode cL_law 614 = .ok (.iastore, 1) := by decide +kernel
theorem dL_law_615 : decode cL_law 615 = .ok (.aload 8, 2) := by decide +kernel
theorem dL_law_617 : decode cL_law 617 = .ok (.iconst 5, 1) := by decide +kernel
theorem dL_law_618 : decode cL_law 618 = .ok (.iload 13, 2) := by decide +kernel
theorem dL_law_620 : decode cL_law 620 = .ok (.imul, 1) := by decide +kernel
theorem dL_law_621 : decode cL_law 621 = .ok (.iconst 1, 1) := by decide +kernel
theorem dL_law_622 : decode cL_law 622 = .ok (.iadd, 1) := by decide +kernel
theorem dL_law_623 : decode cL_law 623 = .ok (.iload 18, 2) := by decide +kernel
theorem dL_law_625 : decode cL_law 625 = .ok (.iastore, 1) := by decide +kernel
theorem dL_law_626 : decode cL_law 626 = .ok (.aload 8, 2) := by decide +kernel
theorem dL_law_628 : decode cL_law 628 = .ok (.iconst 5, 1) := by decide +kernel
theorem dL_law_629 : decode cL_law 629 = .ok (.iload 13, 2) := by decide +kernel
theorem dL_law_631 : decode cL_law 631 = .ok (.imul, 1) := by decide +kernel
theorem dL_law_632 : decode cL_law 632 = .ok (.iconst 2, 1) := by decide +kernel
theorem dL_law_633 : decode cL_law 633 = .ok (.iadd, 1) := by decide +kernel
theorem dL_law_634 : decode cL_law 634 = .ok (.iload 22, 2) := by decide +kernel
theorem dL_law_636 : decode cL_law 636 = .ok (.iastore, 1) := by decide +kernel
theorem dL_law_637 : decode cL_law 637 = .ok (.aload 8, 2) := by decide +kernel
theorem dL_law_639 : decode cL_law 639 = .ok (.iconst 5, 1) := by decide +kernel
theorem dL_law_640 : decode cL_law 640 = .ok (.iload 13, 2) := by decide +kernel
theorem dL_law_642 : decode cL_law 642 = .ok (.imul, 1) := by decide +kernel
theorem dL_law_643 : decode cL_law 643 = .ok (.iconst 3, 1) := by decide +kernel
theorem dL_law_644 : decode cL_law 644 = .ok (.iadd, 1) := by decide +kernel
theorem dL_law_645 : decode cL_law 645 = .ok (.iload 21, 2) := by decide +kernel
theorem dL_law_647 : decode cL_law 647 = .ok (.iastore, 1) := by decide +kernel
theorem dL_law_648 : decode cL_law 648 = .ok (.iinc 13 1, 3) := by decide +kernel
theorem dL_law_651 : decode cL_law 651 = .ok (.goto 613, 3) := by decide +kernel
theorem dL_law_654 : decode cL_law 654 = .ok (.iload 17, 2) := by decide +kernel
theorem dL_law_656 : decode cL_law 656 = .ok (.bipush 6, 2) := by decide +kernel
theorem dL_law_658 : decode cL_law 658 = .ok (.if_icmp .ge 142, 3) := by decide +kernel
theorem dL_law_661 : decode cL_law 661 = .ok (.iload 13, 2) := by decide +kernel
theorem dL_law_663 : decode cL_law 663 = .ok (.ifCond .le 137, 3) := by decide +kernel
theorem dL_law_666 : decode cL_law 666 = .ok (.iload 16, 2) := by decide +kernel
theorem dL_law_668 : decode cL_law 668 = .ok (.sipush 128, 3) := by decide +kernel
theorem dL_law_671 : decode cL_law 671 = .ok (.idiv, 1) := by decide +kernel
theorem dL_law_672 : decode cL_law 672 = .ok (.iload 13, 2) := by decide +kernel
theorem dL_law_674 : decode cL_law 674 = .ok (.invokestatic 33, 3) := by decide +kernel
theorem dL_law_677 : decode cL_law 677 = .ok (.istore 20, 2) := by decide +kernel
theorem dL_law_679 : decode cL_law 679 = .ok (.iconst 3, 1) := by decide +kernel
theorem dL_law_680 : decode cL_law 680 = .ok (.aload 8, 2) := by decide +kernel
theorem dL_law_682 : decode cL_law 682 = .ok (.iconst 5, 1) := by decide +kernel
theorem dL_law_683 : decode cL_law 683 = .ok (.iload 20, 2) := by decide +kernel
theorem dL_law_685 : decode cL_law 685 = .ok (.imul, 1) := by decide +kernel
theorem dL_law_686 : decode cL_law 686 = .ok (.iconst 2, 1) := by decide +kernel
theorem dL_law_687 : decode cL_law 687 = .ok (.iadd, 1) := by decide +kernel
theorem dL_law_688 : decode cL_law 688 = .ok (.iaload, 1) := by decide +kernel
theorem dL_law_689 : decode cL_law 689 = .ok (.sipush 1000, 3) := by decide +kernel
theorem dL_law_692 : decode cL_law 692 = .ok (.idiv, 1) := by decide +kernel
theorem dL_law_693 : decode cL_law 693 = .ok (.iadd, 1) := by decide +kernel
theorem dL_law_694 : decode cL_law 694 = .ok (.istore 21, 2) := by decide +kernel
theorem dL_law_696 : decode cL_law 696 = .ok (.iconst 1, 1) := by decide +kernel
theorem dL_law_697 : decode cL_law 697 = .ok (.aload 8, 2) := by decide +kernel
theorem dL_law_699 : decode cL_law 699 = .ok (.iconst 5, 1) := by decide +kernel
theorem dL_law_700 : decode cL_law 700 = .ok (.iload 20, 2) := by decide +kernel
theorem dL_law_702 : decode cL_law 702 = .ok (.imul, 1) := by decide +kernel
theorem dL_law_703 : decode cL_law 703 = .ok (.iconst 2, 1) := by decide +kernel
theorem dL_law_704 : decode cL_law 704 = .ok (.iadd, 1) := by decide +kernel
theorem dL_law_705 : decode cL_law 705 = .ok (.iaload, 1) := by decide +kernel
theorem dL_law_706 : decode cL_law 706 = .ok (.sipush 500, 3) := by decide +kernel
theorem dL_law_709 : decode cL_law 709 = .ok (.idiv, 1) := by decide +kernel
theorem dL_law_710 : decode cL_law 710 = .ok (.iadd, 1) := by decide +kernel
theorem dL_law_711 : decode cL_law 711 = .ok (.istore 22, 2) := by decide +kernel
theorem dL_law_713 : decode cL_law 713 = .ok (.aload_n 1, 1) := by decide +kernel
theorem dL_law_714 : decode cL_law 714 = .ok (.iconst 0, 1) := by decide +kernel
theorem dL_law_715 : decode cL_law 715 = .ok (.iconst 1, 1) := by decide +kernel
theorem dL_law_716 : decode cL_law 716 = .ok (.iload 20, 2) := by decide +kernel
theorem dL_law_718 : decode cL_law 718 = .ok (.ishl, 1) := by decide +kernel
theorem dL_law_719 : decode cL_law 719 = .ok (.invokestatic 57, 3) := by decide +kernel
theorem dL_law_722 : decode cL_law 722 = .ok (.aload 9, 2) := by decide +kernel
theorem dL_law_724 : decode cL_law 724 = .ok (.iload 20, 2) := by decide +kernel
theorem dL_law_726 : decode cL_law 726 = .ok (.iaload, 1) := by decide +kernel
theorem dL_law_727 : decode cL_law 727 = .ok (.ifCond .gt 10, 3) := by decide +kernel
theorem dL_law_730 : decode cL_law 730 = .ok (.iload 22, 2) := by decide +kernel
theorem dL_law_732 : decode cL_law 732 = .ok (.bipush 6, 2) := by decide +kernel
theorem dL_law_734 : decode cL_law 734 = .ok (.if_icmp .le 9, 3) := by decide +kernel
theorem dL_law_737 : decode cL_law 737 = .ok (.sipush (-1003), 3) := by decide +kernel
theorem dL_law_740 : decode cL_law 740 = .ok (.goto 5, 3) := by decide +kernel
theorem dL_law_743 : decode cL_law 743 = .ok (.iload 21, 2) := by decide +kernel
theorem dL_law_745 : decode cL_law 745 = .ok (.if_icmp .ne 7, 3) := by decide +kernel
theorem dL_law_748 : decode cL_law 748 = .ok (.iconst 1, 1) := by decide +kernel
theorem dL_law_749 : decode cL_law 749 = .ok (.goto 4, 3) := by decide +kernel
theorem dL_law_752 : decode cL_law 752 = .ok (.iconst 0, 1) := by decide +kernel
theorem dL_law_753 : decode cL_law 753 = .ok (.istore 12, 2) := by decide +kernel
theorem dL_law_755 : decode cL_law 755 = .ok (.aload 9, 2) := by decide +kernel
theorem dL_law_757 : decode cL_law 757 = .ok (.iload 20, 2) := by decide +kernel
theorem dL_law_759 : decode cL_law 759 = .ok (.iaload, 1) := by decide +kernel
theorem dL_law_760 : decode cL_law 760 = .ok (.ifCond .ne 37, 3) := by decide +kernel
theorem dL_law_763 : decode cL_law 763 = .ok (.iload 22, 2) := by decide +kernel
theorem dL_law_765 : decode cL_law 765 = .ok (.bipush 6, 2) := by decide +kernel
theorem dL_law_767 : decode cL_law 767 = .ok (.if_icmp .gt 30, 3) := by decide +kernel
theorem dL_law_770 : decode cL_law 770 = .ok (.aload 9, 2) := by decide +kernel
theorem dL_law_772 : decode cL_law 772 = .ok (.iload 20, 2) := by decide +kernel
theorem dL_law_774 : decode cL_law 774 = .ok (.iconst 1, 1) := by decide +kernel
theorem dL_law_775 : decode cL_law 775 = .ok (.iastore, 1) := by decide +kernel
theorem dL_law_776 : decode cL_law 776 = .ok (.aload 8, 2) := by decide +kernel
theorem dL_law_778 : decode cL_law 778 = .ok (.iconst 5, 1) := by decide +kernel
theorem dL_law_779 : decode cL_law 779 = .ok (.iload 20, 2) := by decide +kernel
theorem dL_law_781 : decode cL_law 781 = .ok (.imul, 1) := by decide +kernel
theorem dL_law_782 : decode cL_law 782 = .ok (.iconst 4, 1) := by decide +kernel
theorem dL_law_783 : decode cL_law 783 = .ok (.iadd, 1) := by decide +kernel
theorem dL_law_784 : decode cL_law 784 = .ok (.aload 6, 2) := by decide +kernel
theorem dL_law_786 : decode cL_law 786 = .ok (.aload 8, 2) := by decide +kernel
theorem dL_law_788 : decode cL_law 788 = .ok (.iconst 5, 1) := by decide +kernel
theorem dL_law_789 : decode cL_law 789 = .ok (.iload 20, 2) := by decide +kernel
theorem dL_law_791 : decode cL_law 791 = .ok (.imul, 1) := by decide +kernel
theorem dL_law_792 : decode cL_law 792 = .ok (.iconst 1, 1) := by decide +kernel
theorem dL_law_793 : decode cL_law 793 = .ok (.iadd, 1) := by decide +kernel
theorem dL_law_794 : decode cL_law 794 = .ok (.iaload, 1) := by decide +kernel
theorem dL_law_795 : decode cL_law 795 = .ok (.iaload, 1) := by decide +kernel
theorem dL_law_796 : decode cL_law 796 = .ok (.iastore, 1) := by decide +kernel
theorem dL_law_797 : decode cL_law 797 = .ok (.goto 467, 3) := by decide +kernel
theorem dL_law_800 : decode cL_law 800 = .ok (.iload 17, 2) := by decide +kernel
theorem dL_law_802 : decode cL_law 802 = .ok (.bipush 6, 2) := by decide +kernel
theorem dL_law_804 : decode cL_law 804 = .ok (.if_icmp .ne 223, 3) := by decide +kernel
theorem dL_law_807 : decode cL_law 807 = .ok (.iload 13, 2) := by decide +kernel
theorem dL_law_809 : decode cL_law 809 = .ok (.ifCond .le 218, 3) := by decide +kernel
theorem dL_law_812 : decode cL_law 812 = .ok (.iload 16, 2) := by decide +kernel
theorem dL_law_814 : decode cL_law 814 = .ok (.sipush 128, 3) := by decide +kernel
theorem dL_law_817 : decode cL_law 817 = .ok (.idiv, 1) := by decide +kernel
theorem dL_law_818 : decode cL_law 818 = .ok (.iload 13, 2) := by decide +kernel
theorem dL_law_820 : decode cL_law 820 = .ok (.invokestatic 33, 3) := by decide +kernel
theorem dL_law_823 : decode cL_law 823 = .ok (.istore 20, 2) := by decide +kernel
theorem dL_law_825 : decode cL_law 825 = .ok (.aload 8, 2) := by decide +kernel
theorem dL_law_827 : decode cL_law 827 = .ok (.iconst 5, 1) := by decide +kernel
theorem dL_law_828 : decode cL_law 828 = .ok (.iload 20, 2) := by decide +kernel
theorem dL_law_830 : decode cL_law 830 = .ok (.imul, 1) := by decide +kernel
theorem dL_law_831 : decode cL_law 831 = .ok (.iconst 1, 1) := by decide +kernel
theorem dL_law_832 : decode cL_law 832 = .ok (.iadd, 1) := by decide +kernel
theorem dL_law_833 : decode cL_law 833 = .ok (.iaload, 1) := by decide +kernel
theorem dL_law_834 : decode cL_law 834 = .ok (.istore 21, 2) := by decide +kernel
theorem dL_law_836 : decode cL_law 836 = .ok (.aload 8, 2) := by decide +kernel
theorem dL_law_838 : decode cL_law 838 = .ok (.iconst 5, 1) := by decide +kernel
theorem dL_law_839 : decode cL_law 839 = .ok (.iload 20, 2) := by decide +kernel
theorem dL_law_841 : decode cL_law 841 = .ok (.imul, 1) := by decide +kernel
theorem dL_law_842 : decode cL_law 842 = .ok (.iaload, 1) := by decide +kernel
theorem dL_law_843 : decode cL_law 843 = .ok (.iconst 2, 1) := by decide +kernel
theorem dL_law_844 : decode cL_law 844 = .ok (.if_icmp .ne 45, 3) := by decide +kernel
theorem dL_law_847 : decode cL_law 847 = .ok (.aload 5, 2) := by decide +kernel
theorem dL_law_849 : decode cL_law 849 = .ok (.iload 21, 2) := by decide +kernel
theorem dL_law_851 : decode cL_law 851 = .ok (.iaload, 1) := by decide +kernel
theorem dL_law_852 : decode cL_law 852 = .ok (.aload 5, 2) := by decide +kernel
theorem dL_law_854 : decode cL_law 854 = .ok (.iload 21, 2) := by decide +kernel
theorem dL_law_856 : decode cL_law 856 = .ok (.iaload, 1) := by decide +kernel
theorem dL_law_857 : decode cL_law 857 = .ok (.iload 21, 2) := by decide +kernel
theorem dL_law_859 : decode cL_law 859 = .ok (.iconst 3, 1) := by decide +kernel
theorem dL_law_860 : decode cL_law 860 = .ok (.irem, 1) := by decide +kernel
theorem dL_law_861 : decode cL_law 861 = .ok (.aload 6, 2) := by decide +kernel
theorem dL_law_863 : decode cL_law 863 = .ok (.iload 21, 2) := by decide +kernel
theorem dL_law_865 : decode cL_law 865 = .ok (.iaload, 1) := by decide +kernel
theorem dL_law_866 : decode cL_law 866 = .ok (.aload 4, 2) := by decide +kernel
theorem dL_law_868 : decode cL_law 868 = .ok (.iload 21, 2) := by decide +kernel
theorem dL_law_870 : decode cL_law 870 = .ok (.iaload, 1) := by decide +kernel
theorem dL_law_871 : decode cL_law 871 = .ok (.isub, 1) := by decide +kernel
theorem dL_law_872 : decode cL_law 872 = .ok (.invokestatic 22, 3) := by decide +kernel
theorem dL_law_875 : decode cL_law 875 = .ok (.iadd, 1) := by decide +kernel
theorem dL_law_876 : decode cL_law 876 = .ok (.aload 8, 2) := by decide +kernel
theorem dL_law_878 : decode cL_law 878 = .ok (.iconst 5, 1) := by decide +kernel
theorem dL_law_879 : decode cL_law 879 = .ok (.iload 20, 2) := by decide +kernel
theorem dL_law_881 : decode cL_law 881 = .ok (.imul, 1) := by decide +kernel
theorem dL_law_882 : decode cL_law 882 = .ok (.iconst 3, 1) := by decide +kernel
theorem dL_law_883 : decode cL_law 883 = .ok (.iadd, 1) := by decide +kernel
theorem dL_law_884 : decode cL_law 884 = .ok (.iaload, 1) := by decide +kernel
theorem dL_law_885 : decode cL_law 885 = .ok (.iadd, 1) := by decide +kernel
theorem dL_law_886 : decode cL_law 886 = .ok (.goto 12, 3) := by decide +kernel
theorem dL_law_889 : decode cL_law 889 = .ok (.aload 8, 2) := by decide +kernel
theorem dL_law_891 : decode cL_law 891 = .ok (.iconst 5, 1) := by decide +kernel
theorem dL_law_892 : decode cL_law 892 = .ok (.iload 20, 2) := by decide +kernel
theorem dL_law_894 : decode cL_law 894 = .ok (.imul, 1) := by decide +kernel
theorem dL_law_895 : decode cL_law 895 = .ok (.iconst 2, 1) := by decide +kernel
theorem dL_law_896 : decode cL_law 896 = .ok (.iadd, 1) := by decide +kernel
theorem dL_law_897 : decode cL_law 897 = .ok (.iaload, 1) := by decide +kernel
theorem dL_law_898 : decode cL_law 898 = .ok (.istore 22, 2) := by decide +kernel
theorem dL_law_900 : decode cL_law 900 = .ok (.aload_n 1, 1) := by decide +kernel
theorem dL_law_901 : decode cL_law 901 = .ok (.iconst 1, 1) := by decide +kernel
theorem dL_law_902 : decode cL_law 902 = .ok (.iload 20, 2) := by decide +kernel
theorem dL_law_904 : decode cL_law 904 = .ok (.invokestatic 57, 3) := by decide +kernel
theorem dL_law_907 : decode cL_law 907 = .ok (.aload 9, 2) := by decide +kernel
theorem dL_law_909 : decode cL_law 909 = .ok (.iload 20, 2) := by decide +kernel
theorem dL_law_911 : decode cL_law 911 = .ok (.iaload, 1) := by decide +kernel
theorem dL_law_912 : decode cL_law 912 = .ok (.iconst 2, 1) := by decide +kernel
theorem dL_law_913 : decode cL_law 913 = .ok (.if_icmp .ne 8, 3) := by decide +kernel
theorem dL_law_916 : decode cL_law 916 = .ok (.iload 22, 2) := by decide +kernel
theorem dL_law_918 : decode cL_law 918 = .ok (.goto 6, 3) := by decide +kernel
theorem dL_law_921 : decode cL_law 921 = .ok (.sipush (-1003), 3) := by decide +kernel
theorem dL_law_924 : decode cL_law 924 = .ok (.if_icmp .ne 7, 3) := by decide +kernel
theorem dL_law_927 : decode cL_law 927 = .ok (.iconst 1, 1) := by decide +kernel
theorem dL_law_928 : decode cL_law 928 = .ok (.goto 4, 3) := by decide +kernel
theorem dL_law_931 : decode cL_law 931 = .ok (.iconst 0, 1) := by decide +kernel
theorem dL_law_932 : decode cL_law 932 = .ok (.istore 12, 2) := by decide +kernel
theorem dL_law_934 : decode cL_law 934 = .ok (.aload 8, 2) := by decide +kernel
theorem dL_law_936 : decode cL_law 936 = .ok (.iconst 5, 1) := by decide +kernel
theorem dL_law_937 : decode cL_law 937 = .ok (.iload 20, 2) := by decide +kernel
theorem dL_law_939 : decode cL_law 939 = .ok (.imul, 1) := by decide +kernel
theorem dL_law_940 : decode cL_law 940 = .ok (.iconst 2, 1) := by decide +kernel
theorem dL_law_941 : decode cL_law 941 = .ok (.iadd, 1) := by decide +kernel
theorem dL_law_942 : decode cL_law 942 = .ok (.aload 9, 2) := by decide +kernel
theorem dL_law_944 : decode cL_law 944 = .ok (.iload 20, 2) := by decide +kernel
theorem dL_law_946 : decode cL_law 946 = .ok (.iaload, 1) := by decide +kernel
theorem dL_law_947 : decode cL_law 947 = .ok (.iconst 2, 1) := by decide +kernel
theorem dL_law_948 : decode cL_law 948 = .ok (.if_icmp .ne 8, 3) := by decide +kernel
theorem dL_law_951 : decode cL_law 951 = .ok (.iload 22, 2) := by decide +kernel
theorem dL_law_953 : decode cL_law 953 = .ok (.goto 12, 3) := by decide +kernel
theorem dL_law_956 : decode cL_law 956 = .ok (.aload 8, 2) := by decide +kernel
theorem dL_law_958 : decode cL_law 958 = .ok (.iconst 5, 1) := by decide +kernel
theorem dL_law_959 : decode cL_law 959 = .ok (.iload 20, 2) := by decide +kernel
theorem dL_law_961 : decode cL_law 961 = .ok (.imul, 1) := by decide +kernel
theorem dL_law_962 : decode cL_law 962 = .ok (.iconst 2, 1) := by decide +kernel
theorem dL_law_963 : decode cL_law 963 = .ok (.iadd, 1) := by decide +kernel
theorem dL_law_964 : decode cL_law 964 = .ok (.iaload, 1) := by decide +kernel
theorem dL_law_965 : decode cL_law 965 = .ok (.iastore, 1) := by decide +kernel
theorem dL_law_966 : decode cL_law 966 = .ok (.aload 8, 2) := by decide +kernel
theorem dL_law_968 : decode cL_law 968 = .ok (.iconst 5, 1) := by decide +kernel
theorem dL_law_969 : decode cL_law 969 = .ok (.iload 20, 2) := by decide +kernel
theorem dL_law_971 : decode cL_law 971 = .ok (.imul, 1) := by decide +kernel
theorem dL_law_972 : decode cL_law 972 = .ok (.iconst 4, 1) := by decide +kernel
theorem dL_law_973 : decode cL_law 973 = .ok (.iadd, 1) := by decide +kernel
theorem dL_law_974 : decode cL_law 974 = .ok (.aload 9, 2) := by decide +kernel
theorem dL_law_976 : decode cL_law 976 = .ok (.iload 20, 2) := by decide +kernel
theorem dL_law_978 : decode cL_law 978 = .ok (.iaload, 1) := by decide +kernel
theorem dL_law_979 : decode cL_law 979 = .ok (.iconst 2, 1) := by decide +kernel
theorem dL_law_980 : decode cL_law 980 = .ok (.if_icmp .ne 11, 3) := by decide +kernel
theorem dL_law_983 : decode cL_law 983 = .ok (.aload 6, 2) := by decide +kernel
theorem dL_law_985 : decode cL_law 985 = .ok (.iload 21, 2) := by decide +kernel
theorem dL_law_987 : decode cL_law 987 = .ok (.iaload, 1) := by decide +kernel
theorem dL_law_988 : decode cL_law 988 = .ok (.goto 12, 3) := by decide +kernel
theorem dL_law_991 : decode cL_law 991 = .ok (.aload 8, 2) := by decide +kernel
theorem dL_law_993 : decode cL_law 993 = .ok (.iconst 5, 1) := by decide +kernel
theorem dL_law_994 : decode cL_law 994 = .ok (.iload 20, 2) := by decide +kernel
theorem dL_law_996 : decode cL_law 996 = .ok (.imul, 1) := by decide +kernel
theorem dL_law_997 : decode cL_law 997 = .ok (.iconst 4, 1) := by decide +kernel
theorem dL_law_998 : decode cL_law 998 = .ok (.iadd, 1) := by decide +kernel
theorem dL_law_999 : decode cL_law 999 = .ok (.iaload, 1) := by decide +kernel
theorem dL_law_1000 : decode cL_law 1000 = .ok (.iastore, 1) := by decide +kernel
theorem dL_law_1001 : decode cL_law 1001 = .ok (.aload 9, 2) := by decide +kernel
theorem dL_law_1003 : decode cL_law 1003 = .ok (.iload 20, 2) := by decide +kernel
theorem dL_law_1005 : decode cL_law 1005 = .ok (.aload 9, 2) := by decide +kernel
theorem dL_law_1007 : decode cL_law 1007 = .ok (.iload 20, 2) := by decide +kernel
theorem dL_law_1009 : decode cL_law 1009 = .ok (.iaload, 1) := by decide +kernel
theorem dL_law_1010 : decode cL_law 1010 = .ok (.iconst 2, 1) := by decide +kernel
theorem dL_law_1011 : decode cL_law 1011 = .ok (.if_icmp .ne 7, 3) := by decide +kernel
theorem dL_law_1014 : decode cL_law 1014 = .ok (.iconst 1, 1) := by decide +kernel
theorem dL_law_1015 : decode cL_law 1015 = .ok (.goto 8, 3) := by decide +kernel
theorem dL_law_1018 : decode cL_law 1018 = .ok (.aload 9, 2) := by decide +kernel
theorem dL_law_1020 : decode cL_law 1020 = .ok (.iload 20, 2) := by decide +kernel
theorem dL_law_1022 : decode cL_law 1022 = .ok (.iaload, 1) := by decide +kernel
theorem dL_law_1023 : decode cL_law 1023 = .ok (.iastore, 1) := by decide +kernel
theorem dL_law_1024 : decode cL_law 1024 = .ok (.goto 240, 3) := by decide +kernel
theorem dL_law_1027 : decode cL_law 1027 = .ok (.iload 17, 2) := by decide +kernel
theorem dL_law_1029 : decode cL_law 1029 = .ok (.bipush 6, 2) := by decide +kernel
theorem dL_law_1031 : decode cL_law 1031 = .ok (.if_icmp .le 233, 3) := by decide +kernel
theorem dL_law_1034 : decode cL_law 1034 = .ok (.iconst 1, 1) := by decide +kernel
theorem dL_law_1035 : decode cL_law 1035 = .ok (.iload 16, 2) := by decide +kernel
theorem dL_law_1037 : decode cL_law 1037 = .ok (.sipush 128, 3) := by decide +kernel
theorem dL_law_1040 : decode cL_law 1040 = .ok (.idiv, 1) := by decide +kernel
theorem dL_law_1041 : decode cL_law 1041 = .ok (.iconst 5, 1) := by decide +kernel
theorem dL_law_1042 : decode cL_law 1042 = .ok (.invokestatic 33, 3) := by decide +kernel
theorem dL_law_1045 : decode cL_law 1045 = .ok (.iadd, 1) := by decide +kernel
theorem dL_law_1046 : decode cL_law 1046 = .ok (.istore 20, 2) := by decide +kernel
theorem dL_law_1048 : decode cL_law 1048 = .ok (.iconst 0, 1) := by decide +kernel
theorem dL_law_1049 : decode cL_law 1049 = .ok (.istore 21, 2) := by decide +kernel
theorem dL_law_1051 : decode cL_law 1051 = .ok (.iconst 0, 1) := by decide +kernel
theorem dL_law_1052 : decode cL_law 1052 = .ok (.istore 22, 2) := by decide +kernel
theorem dL_law_1054 : decode cL_law 1054 = .ok (.iload 22, 2) := by decide +kernel
theorem dL_law_1056 : decode cL_law 1056 = .ok (.iload 20, 2) := by decide +kernel
theorem dL_law_1058 : decode cL_law 1058 = .ok (.if_icmp .ge 179, 3) := by decide +kernel
theorem dL_law_1061 : decode cL_law 1061 = .ok (.iconst 0, 1) := by decide +kernel
theorem dL_law_1062 : decode cL_law 1062 = .ok (.istore 23, 2) := by decide +kernel
theorem dL_law_1064 : decode cL_law 1064 = .ok (.iload 23, 2) := by decide +kernel
theorem dL_law_1066 : decode cL_law 1066 = .ok (.iconst 3, 1) := by decide +kernel
theorem dL_law_1067 : decode cL_law 1067 = .ok (.if_icmp .ge 28, 3) := by decide +kernel
theorem dL_law_1070 : decode cL_law 1070 = .ok (.aload_n 3, 1) := by decide +kernel
theorem dL_law_1071 : decode cL_law 1071 = .ok (.iload 23, 2) := by decide +kernel
theorem dL_law_1073 : decode cL_law 1073 = .ok (.aload_n 3, 1) := by decide +kernel
theorem dL_law_1074 : decode cL_law 1074 = .ok (.iload 23, 2) := by decide +kernel
theorem dL_law_1076 : decode cL_law 1076 = .ok (.iaload, 1) := by decide +kernel
theorem dL_law_1077 : decode cL_law 1077 = .ok (.aload_n 2, 1) := by decide +kernel
theorem dL_law_1078 : decode cL_law 1078 = .ok (.iload 14, 2) := by decide +kernel
theorem dL_law_1080 : decode cL_law 1080 = .ok (.bipush 12, 2) := by decide +kernel
theorem dL_law_1082 : decode cL_law 1082 = .ok (.irem, 1) := by decide +kernel
theorem dL_law_1083 : decode cL_law 1083 = .ok (.iaload, 1) := by decide +kernel
theorem dL_law_1084 : decode cL_law 1084 = .ok (.iconst 0, 1) := by decide +kernel
theorem dL_law_1085 : decode cL_law 1085 = .ok (.invokestatic 61, 3) := by decide +kernel
theorem dL_law_1088 : decode cL_law 1088 = .ok (.iastore, 1) := by decide +kernel
theorem dL_law_1089 : decode cL_law 1089 = .ok (.iinc 23 1, 3) := by decide +kernel
theorem dL_law_1092 : decode cL_law 1092 = .ok (.goto (-28), 3) := by decide +kernel
theorem dL_law_1095 : decode cL_law 1095 = .ok (.iconst 0, 1) := by decide +kernel
theorem dL_law_1096 : decode cL_law 1096 = .ok (.istore 23, 2) := by decide +kernel
theorem dL_law_1098 : decode cL_law 1098 = .ok (.iload 23, 2) := by decide +kernel
theorem dL_law_1100 : decode cL_law 1100 = .ok (.bipush 6, 2) := by decide +kernel
theorem dL_law_1102 : decode cL_law 1102 = .ok (.if_icmp .ge 34, 3) := by decide +kernel
theorem dL_law_1105 : decode cL_law 1105 = .ok (.aload 6, 2) := by decide +kernel
theorem dL_law_1107 : decode cL_law 1107 = .ok (.iload 23, 2) := by decide +kernel
theorem dL_law_1109 : decode cL_law 1109 = .ok (.aload 6, 2) := by decide +kernel
theorem dL_law_1111 : decode cL_law 1111 = .ok (.iload 23, 2) := by decide +kernel
theorem dL_law_1113 : decode cL_law 1113 = .ok (.iaload, 1) := by decide +kernel
theorem dL_law_1114 : decode cL_law 1114 = .ok (.aload_n 2, 1) := by decide +kernel
theorem dL_law_1115 : decode cL_law 1115 = .ok (.iload 14, 2) := by decide +kernel
theorem dL_law_1117 : decode cL_law 1117 = .ok (.bipush 12, 2) := by decide +kernel
theorem dL_law_1119 : decode cL_law 1119 = .ok (.irem, 1) := by decide +kernel
theorem dL_law_1120 : decode cL_law 1120 = .ok (.iaload, 1) := by decide +kernel
theorem dL_law_1121 : decode cL_law 1121 = .ok (.aload 7, 2) := by decide +kernel
theorem dL_law_1123 : decode cL_law 1123 = .ok (.iload 23, 2) := by decide +kernel
theorem dL_law_1125 : decode cL_law 1125 = .ok (.iaload, 1) := by decide +kernel
theorem dL_law_1126 : decode cL_law 1126 = .ok (.invokestatic 61, 3) := by decide +kernel
theorem dL_law_1129 : decode cL_law 1129 = .ok (.iastore, 1) := by decide +kernel
theorem dL_law_1130 : decode cL_law 1130 = .ok (.iinc 23 1, 3) := by decide +kernel
theorem dL_law_1133 : decode cL_law 1133 = .ok (.goto (-35), 3) := by decide +kernel
theorem dL_law_1136 : decode cL_law 1136 = .ok (.iconst 0, 1) := by decide +kernel
theorem dL_law_1137 : decode cL_law 1137 = .ok (.istore 23, 2) := by decide +kernel
theorem dL_law_1139 : decode cL_law 1139 = .ok (.iload 23, 2) := by decide +kernel
theorem dL_law_1141 : decode cL_law 1141 = .ok (.iload 13, 2) := by decide +kernel
theorem dL_law_1143 : decode cL_law 1143 = .ok (.if_icmp .ge 85, 3) := by decide +kernel
theorem dL_law_1146 : decode cL_law 1146 = .ok (.aload 9, 2) := by decide +kernel
theorem dL_law_1148 : decode cL_law 1148 = .ok (.iload 23, 2) := by decide +kernel
theorem dL_law_1150 : decode cL_law 1150 = .ok (.iaload, 1) := by decide +kernel
theorem dL_law_1151 : decode cL_law 1151 = .ok (.iconst 1, 1) := by decide +kernel
theorem dL_law_1152 : decode cL_law 1152 = .ok (.if_icmp .ne 33, 3) := by decide +kernel
theorem dL_law_1155 : decode cL_law 1155 = .ok (.aload 8, 2) := by decide +kernel
theorem dL_law_1157 : decode cL_law 1157 = .ok (.iload 23, 2) := by decide +kernel
theorem dL_law_1159 : decode cL_law 1159 = .ok (.aload 5, 2) := by decide +kernel
theorem dL_law_1161 : decode cL_law 1161 = .ok (.aload 4, 2) := by decide +kernel
theorem dL_law_1163 : decode cL_law 1163 = .ok (.aload 6, 2) := by decide +kernel
theorem dL_law_1165 : decode cL_law 1165 = .ok (.aload 8, 2) := by decide +kernel
theorem dL_law_1167 : decode cL_law 1167 = .ok (.iconst 5, 1) := by decide +kernel
theorem dL_law_1168 : decode cL_law 1168 = .ok (.iload 23, 2) := by decide +kernel
theorem dL_law_1170 : decode cL_law 1170 = .ok (.imul, 1) := by decide +kernel
theorem dL_law_1171 : decode cL_law 1171 = .ok (.iconst 1, 1) := by decide +kernel
theorem dL_law_1172 : decode cL_law 1172 = .ok (.iadd, 1) := by decide +kernel
theorem dL_law_1173 : decode cL_law 1173 = .ok (.iaload, 1) := by decide +kernel
theorem dL_law_1174 : decode cL_law 1174 = .ok (.iaload, 1) := by decide +kernel
theorem dL_law_1175 : decode cL_law 1175 = .ok (.invokestatic 64, 3) := by decide +kernel
theorem dL_law_1178 : decode cL_law 1178 = .ok (.ifCond .eq 7, 3) := by decide +kernel
theorem dL_law_1181 : decode cL_law 1181 = .ok (.iconst 1, 1) := by decide +kernel
theorem dL_law_1182 : decode cL_law 1182 = .ok (.goto 4, 3) := by decide +kernel
theorem dL_law_1185 : decode cL_law 1185 = .ok (.iconst 0, 1) := by decide +kernel
theorem dL_law_1186 : decode cL_law 1186 = .ok (.istore 24, 2) := by decide +kernel
theorem dL_law_1188 : decode cL_law 1188 = .ok (.aload 9, 2) := by decide +kernel
theorem dL_law_1190 : decode cL_law 1190 = .ok (.iload 23, 2) := by decide +kernel
theorem dL_law_1192 : decode cL_law 1192 = .ok (.iload 24, 2) := by decide +kernel
theorem dL_law_1194 : decode cL_law 1194 = .ok (.ifCond .eq 7, 3) := by decide +kernel
theorem dL_law_1197 : decode cL_law 1197 = .ok (.iconst 2, 1) := by decide +kernel
theorem dL_law_1198 : decode cL_law 1198 = .ok (.goto 8, 3) := by decide +kernel
theorem dL_law_1201 : decode cL_law 1201 = .ok (.aload 9, 2) := by decide +kernel
theorem dL_law_1203 : decode cL_law 1203 = .ok (.iload 23, 2) := by decide +kernel
theorem dL_law_1205 : decode cL_law 1205 = .ok (.iaload, 1) := by decide +kernel
theorem dL_law_1206 : decode cL_law 1206 = .ok (.iastore, 1) := by decide +kernel
theorem dL_law_1207 : decode cL_law 1207 = .ok (.iload 21, 2) := by decide +kernel
theorem dL_law_1209 : decode cL_law 1209 = .ok (.iload 24, 2) := by decide +kernel
theorem dL_law_1211 : decode cL_law 1211 = .ok (.ifCond .eq 7, 3) := by decide +kernel
theorem dL_law_1214 : decode cL_law 1214 = .ok (.iconst 1, 1) := by decide +kernel
theorem dL_law_1215 : decode cL_law 1215 = .ok (.goto 4, 3) := by decide +kernel
theorem dL_law_1218 : decode cL_law 1218 = .ok (.iconst 0, 1) := by decide +kernel
theorem dL_law_1219 : decode cL_law 1219 = .ok (.iadd, 1) := by decide +kernel
theorem dL_law_1220 : decode cL_law 1220 = .ok (.istore 21, 2) := by decide +kernel
theorem dL_law_1222 : decode cL_law 1222 = .ok (.iinc 23 1, 3) := by decide +kernel
theorem dL_law_1225 : decode cL_law 1225 = .ok (.goto (-86), 3) := by decide +kernel
theorem dL_law_1228 : decode cL_law 1228 = .ok (.iinc 14 1, 3) := by decide +kernel
theorem dL_law_1231 : decode cL_law 1231 = .ok (.iinc 22 1, 3) := by decide +kernel
theorem dL_law_1234 : decode cL_law 1234 = .ok (.goto (-180), 3) := by decide +kernel
theorem dL_law_1237 : decode cL_law 1237 = .ok (.aload_n 1, 1) := by decide +kernel
theorem dL_law_1238 : decode cL_law 1238 = .ok (.iload 20, 2) := by decide +kernel
theorem dL_law_1240 : decode cL_law 1240 = .ok (.invokevirtual 68, 3) := by decide +kernel
theorem dL_law_1243 : decode cL_law 1243 = .ok (.iload 21, 2) := by decide +kernel
theorem dL_law_1245 : decode cL_law 1245 = .ok (.if_icmp .ne 16, 3) := by decide +kernel
theorem dL_law_1248 : decode cL_law 1248 = .ok (.aload_n 1, 1) := by decide +kernel
theorem dL_law_1249 : decode cL_law 1249 = .ok (.invokevirtual 71, 3) := by decide +kernel
theorem dL_law_1252 : decode cL_law 1252 = .ok (.iload 14, 2) := by decide +kernel
theorem dL_law_1254 : decode cL_law 1254 = .ok (.if_icmp .ne 7, 3) := by decide +kernel
theorem dL_law_1257 : decode cL_law 1257 = .ok (.iconst 1, 1) := by decide +kernel
theorem dL_law_1258 : decode cL_law 1258 = .ok (.goto 4, 3) := by decide +kernel
theorem dL_law_1261 : decode cL_law 1261 = .ok (.iconst 0, 1) := by decide +kernel
theorem dL_law_1262 : decode cL_law 1262 = .ok (.istore 12, 2) := by decide +kernel
theorem dL_law_1264 : decode cL_law 1264 = .ok (.iconst 1, 1) := by decide +kernel
theorem dL_law_1265 : decode cL_law 1265 = .ok (.iload 15, 2) := by decide +kernel
theorem dL_law_1267 : decode cL_law 1267 = .ok (.bipush 24, 2) := by decide +kernel
theorem dL_law_1269 : decode cL_law 1269 = .ok (.irem, 1) := by decide +kernel
theorem dL_law_1270 : decode cL_law 1270 = .ok (.iadd, 1) := by decide +kernel
theorem dL_law_1271 : decode cL_law 1271 = .ok (.istore 20, 2) := by decide +kernel
theorem dL_law_1273 : decode cL_law 1273 = .ok (.iconst 0, 1) := by decide +kernel
theorem dL_law_1274 : decode cL_law 1274 = .ok (.istore 21, 2) := by decide +kernel
theorem dL_law_1276 : decode cL_law 1276 = .ok (.iload 21, 2) := by decide +kernel
theorem dL_law_1278 : decode cL_law 1278 = .ok (.bipush 6, 2) := by decide +kernel
theorem dL_law_1280 : decode cL_law 1280 = .ok (.if_icmp .ge 122, 3) := by decide +kernel
theorem dL_law_1283 : decode cL_law 1283 = .ok (.aload 10, 2) := by decide +kernel
theorem dL_law_1285 : decode cL_law 1285 = .ok (.iload 21, 2) := by decide +kernel
theorem dL_law_1287 : decode cL_law 1287 = .ok (.aload 6, 2) := by decide +kernel
theorem dL_law_1289 : decode cL_law 1289 = .ok (.iload 21, 2) := by decide +kernel
theorem dL_law_1291 : decode cL_law 1291 = .ok (.iaload, 1) := by decide +kernel
theorem dL_law_1292 : decode cL_law 1292 = .ok (.iastore, 1) := by decide +kernel
theorem dL_law_1293 : decode cL_law 1293 = .ok (.aload 5, 2) := by decide +kernel
theorem dL_law_1295 : decode cL_law 1295 = .ok (.iload 21, 2) := by decide +kernel
theorem dL_law_1297 : decode cL_law 1297 = .ok (.iaload, 1) := by decide +kernel
theorem dL_law_1298 : decode cL_law 1298 = .ok (.aload 5, 2) := by decide +kernel
theorem dL_law_1300 : decode cL_law 1300 = .ok (.iload 21, 2) := by decide +kernel
theorem dL_law_1302 : decode cL_law 1302 = .ok (.iaload, 1) := by decide +kernel
theorem dL_law_1303 : decode cL_law 1303 = .ok (.iload 21, 2) := by decide +kernel
theorem dL_law_1305 : decode cL_law 1305 = .ok (.iconst 3, 1) := by decide +kernel
theorem dL_law_1306 : decode cL_law 1306 = .ok (.irem, 1) := by decide +kernel
theorem dL_law_1307 : decode cL_law 1307 = .ok (.aload 6, 2) := by decide +kernel
theorem dL_law_1309 : decode cL_law 1309 = .ok (.iload 21, 2) := by decide +kernel
theorem dL_law_1311 : decode cL_law 1311 = .ok (.iaload, 1) := by decide +kernel
theorem dL_law_1312 : decode cL_law 1312 = .ok (.aload 4, 2) := by decide +kernel
theorem dL_law_1314 : decode cL_law 1314 = .ok (.iload 21, 2) := by decide +kernel
theorem dL_law_1316 : decode cL_law 1316 = .ok (.iaload, 1) := by decide +kernel
theorem dL_law_1317 : decode cL_law 1317 = .ok (.isub, 1) := by decide +kernel
theorem dL_law_1318 : decode cL_law 1318 = .ok (.invokestatic 22, 3) := by decide +kernel
theorem dL_law_1321 : decode cL_law 1321 = .ok (.iadd, 1) := by decide +kernel
theorem dL_law_1322 : decode cL_law 1322 = .ok (.istore 22, 2) := by decide +kernel
theorem dL_law_1324 : decode cL_law 1324 = .ok (.iload 12, 2) := by decide +kernel
theorem dL_law_1326 : decode cL_law 1326 = .ok (.ifCond .eq 67, 3) := by decide +kernel
theorem dL_law_1329 : decode cL_law 1329 = .ok (.aload_n 1, 1) := by decide +kernel
theorem dL_law_1330 : decode cL_law 1330 = .ok (.iload 21, 2) := by decide +kernel
theorem dL_law_1332 : decode cL_law 1332 = .ok (.iconst 2, 1) := by decide +kernel
theorem dL_law_1333 : decode cL_law 1333 = .ok (.invokevirtual 75, 3) := by decide +kernel
theorem dL_law_1336 : decode cL_law 1336 = .ok (.aload 6, 2) := by decide +kernel
theorem dL_law_1338 : decode cL_law 1338 = .ok (.iload 21, 2) := by decide +kernel
theorem dL_law_1340 : decode cL_law 1340 = .ok (.iaload, 1) := by decide +kernel
theorem dL_law_1341 : decode cL_law 1341 = .ok (.if_icmp .ne 52, 3) := by decide +kernel
theorem dL_law_1344 : decode cL_law 1344 = .ok (.aload_n 1, 1) := by decide +kernel
theorem dL_law_1345 : decode cL_law 1345 = .ok (.iload 21, 2) := by decide +kernel
theorem dL_law_1347 : decode cL_law 1347 = .ok (.iconst 1, 1) := by decide +kernel
theorem dL_law_1348 : decode cL_law 1348 = .ok (.invokevirtual 75, 3) := by decide +kernel
theorem dL_law_1351 : decode cL_law 1351 = .ok (.iload 22, 2) := by decide +kernel
theorem dL_law_1353 : decode cL_law 1353 = .ok (.if_icmp .ne 40, 3) := by decide +kernel
theorem dL_law_1356 : decode cL_law 1356 = .ok (.aload_n 1, 1) := by decide +kernel
theorem dL_law_1357 : decode cL_law 1357 = .ok (.iload 21, 2) := by decide +kernel
theorem dL_law_1359 : decode cL_law 1359 = .ok (.iconst 3, 1) := by decide +kernel
theorem dL_law_1360 : decode cL_law 1360 = .ok (.invokevirtual 75, 3) := by decide +kernel
theorem dL_law_1363 : decode cL_law 1363 = .ok (.aload 7, 2) := by decide +kernel
theorem dL_law_1365 : decode cL_law 1365 = .ok (.iload 21, 2) := by decide +kernel
theorem dL_law_1367 : decode cL_law 1367 = .ok (.iaload, 1) := by decide +kernel
theorem dL_law_1368 : decode cL_law 1368 = .ok (.if_icmp .ne 25, 3) := by decide +kernel
theorem dL_law_1371 : decode cL_law 1371 = .ok (.aload_n 1, 1) := by decide +kernel
theorem dL_law_1372 : decode cL_law 1372 = .ok (.iload 21, 2) := by decide +kernel
theorem dL_law_1374 : decode cL_law 1374 = .ok (.iconst 3, 1) := by decide +kernel
theorem dL_law_1375 : decode cL_law 1375 = .ok (.irem, 1) := by decide +kernel
theorem dL_law_1376 : decode cL_law 1376 = .ok (.iconst 0, 1) := by decide +kernel
theorem dL_law_1377 : decode cL_law 1377 = .ok (.invokevirtual 78, 3) := by decide +kernel
theorem dL_law_1380 : decode cL_law 1380 = .ok (.aload_n 3, 1) := by decide +kernel
theorem dL_law_1381 : decode cL_law 1381 = .ok (.iload 21, 2) := by decide +kernel
theorem dL_law_1383 : decode cL_law 1383 = .ok (.iconst 3, 1) := by decide +kernel
theorem dL_law_1384 : decode cL_law 1384 = .ok (.irem, 1) := by decide +kernel
theorem dL_law_1385 : decode cL_law 1385 = .ok (.iaload, 1) := by decide +kernel
theorem dL_law_1386 : decode cL_law 1386 = .ok (.if_icmp .ne 7, 3) := by decide +kernel
theorem dL_law_1389 : decode cL_law 1389 = .ok (.iconst 1, 1) := by decide +kernel
theorem dL_law_1390 : decode cL_law 1390 = .ok (.goto 4, 3) := by decide +kernel
theorem dL_law_1393 : decode cL_law 1393 = .ok (.iconst 0, 1) := by decide +kernel
theorem dL_law_1394 : decode cL_law 1394 = .ok (.istore 12, 2) := by decide +kernel
theorem dL_law_1396 : decode cL_law 1396 = .ok (.iinc 21 1, 3) := by decide +kernel
theorem dL_law_1399 : decode cL_law 1399 = .ok (.goto (-123), 3) := by decide +kernel
theorem dL_law_1402 : decode cL_law 1402 = .ok (.iconst 0, 1) := by decide +kernel
theorem dL_law_1403 : decode cL_law 1403 = .ok (.istore 21, 2) := by decide +kernel
theorem dL_law_1405 : decode cL_law 1405 = .ok (.iload 21, 2) := by decide +kernel
theorem dL_law_1407 : decode cL_law 1407 = .ok (.iload 13, 2) := by decide +kernel
theorem dL_law_1409 : decode cL_law 1409 = .ok (.if_icmp .ge 15, 3) := by decide +kernel
theorem dL_law_1412 : decode cL_law 1412 = .ok (.aload 11, 2) := by decide +kernel
theorem dL_law_1414 : decode cL_law 1414 = .ok (.iload 21, 2) := by decide +kernel
theorem dL_law_1416 : decode cL_law 1416 = .ok (.iconst (-1), 1) := by decide +kernel
theorem dL_law_1417 : decode cL_law 1417 = .ok (.iastore, 1) := by decide +kernel
theorem dL_law_1418 : decode cL_law 1418 = .ok (.iinc 21 1, 3) := by decide +kernel
theorem dL_law_1421 : decode cL_law 1421 = .ok (.goto (-16), 3) := by decide +kernel
theorem dL_law_1424 : decode cL_law 1424 = .ok (.iconst 0, 1) := by decide +kernel
theorem dL_law_1425 : decode cL_law 1425 = .ok (.istore 21, 2) := by decide +kernel
theorem dL_law_1427 : decode cL_law 1427 = .ok (.iload 21, 2) := by decide +kernel
theorem dL_law_1429 : decode cL_law 1429 = .ok (.iload 20, 2) := by decide +kernel
theorem dL_law_1431 : decode cL_law 1431 = .ok (.if_icmp .ge 141, 3) := by decide +kernel
theorem dL_law_1434 : decode cL_law 1434 = .ok (.iconst 0, 1) := by decide +kernel
theorem dL_law_1435 : decode cL_law 1435 = .ok (.istore 22, 2) := by decide +kernel
theorem dL_law_1437 : decode cL_law 1437 = .ok (.iload 22, 2) := by decide +kernel
theorem dL_law_1439 : decode cL_law 1439 = .ok (.bipush 6, 2) := by decide +kernel
theorem dL_law_1441 : decode cL_law 1441 = .ok (.if_icmp .ge 37, 3) := by decide +kernel
theorem dL_law_1444 : decode cL_law 1444 = .ok (.aload 10, 2) := by decide +kernel
theorem dL_law_1446 : decode cL_law 1446 = .ok (.iload 22, 2) := by decide +kernel
theorem dL_law_1448 : decode cL_law 1448 = .ok (.aload 10, 2) := by decide +kernel
theorem dL_law_1450 : decode cL_law 1450 = .ok (.iload 22, 2) := by decide +kernel
theorem dL_law_1452 : decode cL_law 1452 = .ok (.iaload, 1) := by decide +kernel
theorem dL_law_1453 : decode cL_law 1453 = .ok (.aload_n 2, 1) := by decide +kernel
theorem dL_law_1454 : decode cL_law 1454 = .ok (.iload 14, 2) := by decide +kernel
theorem dL_law_1456 : decode cL_law 1456 = .ok (.iload 21, 2) := by decide +kernel
theorem dL_law_1458 : decode cL_law 1458 = .ok (.iadd, 1) := by decide +kernel
theorem dL_law_1459 : decode cL_law 1459 = .ok (.bipush 12, 2) := by decide +kernel
theorem dL_law_1461 : decode cL_law 1461 = .ok (.irem, 1) := by decide +kernel
theorem dL_law_1462 : decode cL_law 1462 = .ok (.iaload, 1) := by decide +kernel
theorem dL_law_1463 : decode cL_law 1463 = .ok (.aload 7, 2) := by decide +kernel
theorem dL_law_1465 : decode cL_law 1465 = .ok (.iload 22, 2) := by decide +kernel
theorem dL_law_1467 : decode cL_law 1467 = .ok (.iaload, 1) := by decide +kernel
theorem dL_law_1468 : decode cL_law 1468 = .ok (.invokestatic 61, 3) := by decide +kernel
theorem dL_law_1471 : decode cL_law 1471 = .ok (.iastore, 1) := by decide +kernel
theorem dL_law_1472 : decode cL_law 1472 = .ok (.iinc 22 1, 3) := by decide +kernel
theorem dL_law_1475 : decode cL_law 1475 = .ok (.goto (-38), 3) := by decide +kernel
theorem dL_law_1478 : decode cL_law 1478 = .ok (.iconst 0, 1) := by decide +kernel
theorem dL_law_1479 : decode cL_law 1479 = .ok (.istore 22, 2) := by decide +kernel
theorem dL_law_1481 : decode cL_law 1481 = .ok (.iload 22, 2) := by decide +kernel
theorem dL_law_1483 : decode cL_law 1483 = .ok (.iload 13, 2) := by decide +kernel
theorem dL_law_1485 : decode cL_law 1485 = .ok (.if_icmp .ge 81, 3) := by decide +kernel
theorem dL_law_1488 : decode cL_law 1488 = .ok (.aload 9, 2) := by decide +kernel
theorem dL_law_1490 : decode cL_law 1490 = .ok (.iload 22, 2) := by decide +kernel
theorem dL_law_1492 : decode cL_law 1492 = .ok (.iaload, 1) := by decide +kernel
theorem dL_law_1493 : decode cL_law 1493 = .ok (.iconst 1, 1) := by decide +kernel
theorem dL_law_1494 : decode cL_law 1494 = .ok (.if_icmp .ne 41, 3) := by decide +kernel
theorem dL_law_1497 : decode cL_law 1497 = .ok (.aload 11, 2) := by decide +kernel
theorem dL_law_1499 : decode cL_law 1499 = .ok (.iload 22, 2) := by decide +kernel
theorem dL_law_1501 : decode cL_law 1501 = .ok (.iaload, 1) := by decide +kernel
theorem dL_law_1502 : decode cL_law 1502 = .ok (.ifCond .ge 33, 3) := by decide +kernel
theorem dL_law_1505 : decode cL_law 1505 = .ok (.aload 8, 2) := by decide +kernel
theorem dL_law_1507 : decode cL_law 1507 = .ok (.iload 22, 2) := by decide +kernel
theorem dL_law_1509 : decode cL_law 1509 = .ok (.aload 5, 2) := by decide +kernel
theorem dL_law_1511 : decode cL_law 1511 = .ok (.aload 4, 2) := by decide +kernel
theorem dL_law_1513 : decode cL_law 1513 = .ok (.aload 10, 2) := by decide +kernel
theorem dL_law_1515 : decode cL_law 1515 = .ok (.aload 8, 2) := by decide +kernel
theorem dL_law_1517 : decode cL_law 1517 = .ok (.iconst 5, 1) := by decide +kernel
theorem dL_law_1518 : decode cL_law 1518 = .ok (.iload 22, 2) := by decide +kernel
theorem dL_law_1520 : decode cL_law 1520 = .ok (.imul, 1) := by decide +kernel
theorem dL_law_1521 : decode cL_law 1521 = .ok (.iconst 1, 1) := by decide +kernel
theorem dL_law_1522 : decode cL_law 1522 = .ok (.iadd, 1) := by decide +kernel
theorem dL_law_1523 : decode cL_law 1523 = .ok (.iaload, 1) := by decide +kernel
theorem dL_law_1524 : decode cL_law 1524 = .ok (.iaload, 1) := by decide +kernel
theorem dL_law_1525 : decode cL_law 1525 = .ok (.invokestatic 64, 3) := by decide +kernel
theorem dL_law_1528 : decode cL_law 1528 = .ok (.ifCond .eq 7, 3) := by decide +kernel
theorem dL_law_1531 : decode cL_law 1531 = .ok (.iconst 1, 1) := by decide +kernel
theorem dL_law_1532 : decode cL_law 1532 = .ok (.goto 4, 3) := by decide +kernel
theorem dL_law_1535 : decode cL_law 1535 = .ok (.iconst 0, 1) := by decide +kernel
theorem dL_law_1536 : decode cL_law 1536 = .ok (.istore 23, 2) := by decide +kernel
theorem dL_law_1538 : decode cL_law 1538 = .ok (.aload 11, 2) := by decide +kernel
theorem dL_law_1540 : decode cL_law 1540 = .ok (.iload 22, 2) := by decide +kernel
theorem dL_law_1542 : decode cL_law 1542 = .ok (.iload 23, 2) := by decide +kernel
theorem dL_law_1544 : decode cL_law 1544 = .ok (.ifCond .eq 10, 3) := by decide +kernel
theorem dL_law_1547 : decode cL_law 1547 = .ok (.iload 21, 2) := by decide +kernel
theorem dL_law_1549 : decode cL_law 1549 = .ok (.iconst 1, 1) := by decide +kernel
theorem dL_law_1550 : decode cL_law 1550 = .ok (.iadd, 1) := by decide +kernel
theorem dL_law_1551 : decode cL_law 1551 = .ok (.goto 8, 3) := by decide +kernel
theorem dL_law_1554 : decode cL_law 1554 = .ok (.aload 11, 2) := by decide +kernel
theorem dL_law_1556 : decode cL_law 1556 = .ok (.iload 22, 2) := by decide +kernel
theorem dL_law_1558 : decode cL_law 1558 = .ok (.iaload, 1) := by decide +kernel
theorem dL_law_1559 : decode cL_law 1559 = .ok (.iastore, 1) := by decide +kernel
theorem dL_law_1560 : decode cL_law 1560 = .ok (.iinc 22 1, 3) := by decide +kernel
theorem dL_law_1563 : decode cL_law 1563 = .ok (.goto (-82), 3) := by decide +kernel
theorem dL_law_1566 : decode cL_law 1566 = .ok (.iinc 21 1, 3) := by decide +kernel
theorem dL_law_1569 : decode cL_law 1569 = .ok (.goto (-142), 3) := by decide +kernel
theorem dL_law_1572 : decode cL_law 1572 = .ok (.iconst 0, 1) := by decide +kernel
theorem dL_law_1573 : decode cL_law 1573 = .ok (.istore 21, 2) := by decide +kernel
theorem dL_law_1575 : decode cL_law 1575 = .ok (.iconst 0, 1) := by decide +kernel
theorem dL_law_1576 : decode cL_law 1576 = .ok (.istore 22, 2) := by decide +kernel
theorem dL_law_1578 : decode cL_law 1578 = .ok (.iload 22, 2) := by decide +kernel
theorem dL_law_1580 : decode cL_law 1580 = .ok (.iload 13, 2) := by decide +kernel
theorem dL_law_1582 : decode cL_law 1582 = .ok (.if_icmp .ge 203, 3) := by decide +kernel
theorem dL_law_1585 : decode cL_law 1585 = .ok (.aload 8, 2) := by decide +kernel
theorem dL_law_1587 : decode cL_law 1587 = .ok (.iconst 5, 1) := by decide +kernel
theorem dL_law_1588 : decode cL_law 1588 = .ok (.iload 22, 2) := by decide +kernel
theorem dL_law_1590 : decode cL_law 1590 = .ok (.imul, 1) := by decide +kernel
theorem dL_law_1591 : decode cL_law 1591 = .ok (.iconst 1, 1) := by decide +kernel
theorem dL_law_1592 : decode cL_law 1592 = .ok (.iadd, 1) := by decide +kernel
theorem dL_law_1593 : decode cL_law 1593 = .ok (.iaload, 1) := by decide +kernel
theorem dL_law_1594 : decode cL_law 1594 = .ok (.istore 23, 2) := by decide +kernel
theorem dL_law_1596 : decode cL_law 1596 = .ok (.aload 5, 2) := by decide +kernel
theorem dL_law_1598 : decode cL_law 1598 = .ok (.iload 23, 2) := by decide +kernel
theorem dL_law_1600 : decode cL_law 1600 = .ok (.iaload, 1) := by decide +kernel
theorem dL_law_1601 : decode cL_law 1601 = .ok (.aload 5, 2) := by decide +kernel
theorem dL_law_1603 : decode cL_law 1603 = .ok (.iload 23, 2) := by decide +kernel
theorem dL_law_1605 : decode cL_law 1605 = .ok (.iaload, 1) := by decide +kernel
theorem dL_law_1606 : decode cL_law 1606 = .ok (.iload 23, 2) := by decide +kernel
theorem dL_law_1608 : decode cL_law 1608 = .ok (.iconst 3, 1) := by decide +kernel
theorem dL_law_1609 : decode cL_law 1609 = .ok (.irem, 1) := by decide +kernel
theorem dL_law_1610 : decode cL_law 1610 = .ok (.aload 6, 2) := by decide +kernel
theorem dL_law_1612 : decode cL_law 1612 = .ok (.iload 23, 2) := by decide +kernel
theorem dL_law_1614 : decode cL_law 1614 = .ok (.iaload, 1) := by decide +kernel
theorem dL_law_1615 : decode cL_law 1615 = .ok (.aload 4, 2) := by decide +kernel
theorem dL_law_1617 : decode cL_law 1617 = .ok (.iload 23, 2) := by decide +kernel
theorem dL_law_1619 : decode cL_law 1619 = .ok (.iaload, 1) := by decide +kernel
theorem dL_law_1620 : decode cL_law 1620 = .ok (.isub, 1) := by decide +kernel
theorem dL_law_1621 : decode cL_law 1621 = .ok (.invokestatic 22, 3) := by decide +kernel
theorem dL_law_1624 : decode cL_law 1624 = .ok (.iadd, 1) := by decide +kernel
theorem dL_law_1625 : decode cL_law 1625 = .ok (.istore 24, 2) := by decide +kernel
theorem dL_law_1627 : decode cL_law 1627 = .ok (.aload 9, 2) := by decide +kernel
theorem dL_law_1629 : decode cL_law 1629 = .ok (.iload 22, 2) := by decide +kernel
theorem dL_law_1631 : decode cL_law 1631 = .ok (.iaload, 1) := by decide +kernel
theorem dL_law_1632 : decode cL_law 1632 = .ok (.ifCond .ne 7, 3) := by decide +kernel
theorem dL_law_1635 : decode cL_law 1635 = .ok (.iconst 0, 1) := by decide +kernel
theorem dL_law_1636 : decode cL_law 1636 = .ok (.goto 46, 3) := by decide +kernel
theorem dL_law_1639 : decode cL_law 1639 = .ok (.aload 9, 2) := by decide +kernel
theorem dL_law_1641 : decode cL_law 1641 = .ok (.iload 22, 2) := by decide +kernel
theorem dL_law_1643 : decode cL_law 1643 = .ok (.iaload, 1) := by decide +kernel
theorem dL_law_1644 : decode cL_law 1644 = .ok (.iconst 2, 1) := by decide +kernel
theorem dL_law_1645 : decode cL_law 1645 = .ok (.if_icmp .ne 7, 3) := by decide +kernel
theorem dL_law_1648 : decode cL_law 1648 = .ok (.iconst 3, 1) := by decide +kernel
theorem dL_law_1649 : decode cL_law 1649 = .ok (.goto 33, 3) := by decide +kernel
theorem dL_law_1652 : decode cL_law 1652 = .ok (.aload 8, 2) := by decide +kernel
theorem dL_law_1654 : decode cL_law 1654 = .ok (.iconst 5, 1) := by decide +kernel
theorem dL_law_1655 : decode cL_law 1655 = .ok (.iload 22, 2) := by decide +kernel
theorem dL_law_1657 : decode cL_law 1657 = .ok (.imul, 1) := by decide +kernel
theorem dL_law_1658 : decode cL_law 1658 = .ok (.iaload, 1) := by decide +kernel
theorem dL_law_1659 : decode cL_law 1659 = .ok (.iconst 2, 1) := by decide +kernel
theorem dL_law_1660 : decode cL_law 1660 = .ok (.if_icmp .ne 21, 3) := by decide +kernel
theorem dL_law_1663 : decode cL_law 1663 = .ok (.iload 24, 2) := by decide +kernel
theorem dL_law_1665 : decode cL_law 1665 = .ok (.aload 8, 2) := by decide +kernel
theorem dL_law_1667 : decode cL_law 1667 = .ok (.iconst 5, 1) := by decide +kernel
theorem dL_law_1668 : decode cL_law 1668 = .ok (.iload 22, 2) := by decide +kernel
theorem dL_law_1670 : decode cL_law 1670 = .ok (.imul, 1) := by decide +kernel
theorem dL_law_1671 : decode cL_law 1671 = .ok (.iconst 2, 1) := by decide +kernel
theorem dL_law_1672 : decode cL_law 1672 = .ok (.iadd, 1) := by decide +kernel
theorem dL_law_1673 : decode cL_law 1673 = .ok (.iaload, 1) := by decide +kernel
theorem dL_law_1674 : decode cL_law 1674 = .ok (.if_icmp .le 7, 3) := by decide +kernel
theorem dL_law_1677 : decode cL_law 1677 = .ok (.iconst 2, 1) := by decide +kernel
theorem dL_law_1678 : decode cL_law 1678 = .ok (.goto 4, 3) := by decide +kernel
theorem dL_law_1681 : decode cL_law 1681 = .ok (.iconst 1, 1) := by decide +kernel
theorem dL_law_1682 : decode cL_law 1682 = .ok (.istore 25, 2) := by decide +kernel
theorem dL_law_1684 : decode cL_law 1684 = .ok (.iload 12, 2) := by decide +kernel
theorem dL_law_1686 : decode cL_law 1686 = .ok (.ifCond .eq 69, 3) := by decide +kernel
theorem dL_law_1689 : decode cL_law 1689 = .ok (.aload_n 1, 1) := by decide +kernel
theorem dL_law_1690 : decode cL_law 1690 = .ok (.iload 22, 2) := by decide +kernel
theorem dL_law_1692 : decode cL_law 1692 = .ok (.iconst 0, 1) := by decide +kernel
theorem dL_law_1693 : decode cL_law 1693 = .ok (.invokevirtual 81, 3) := by decide +kernel
theorem dL_law_1696 : decode cL_law 1696 = .ok (.iload 25, 2) := by decide +kernel
theorem dL_law_1698 : decode cL_law 1698 = .ok (.if_icmp .ne 57, 3) := by decide +kernel
theorem dL_law_1701 : decode cL_law 1701 = .ok (.aload_n 1, 1) := by decide +kernel
theorem dL_law_1702 : decode cL_law 1702 = .ok (.iload 22, 2) := by decide +kernel
theorem dL_law_1704 : decode cL_law 1704 = .ok (.iconst 1, 1) := by decide +kernel
theorem dL_law_1705 : decode cL_law 1705 = .ok (.invokevirtual 81, 3) := by decide +kernel
theorem dL_law_1708 : decode cL_law 1708 = .ok (.aload 8, 2) := by decide +kernel
theorem dL_law_1710 : decode cL_law 1710 = .ok (.iconst 5, 1) := by decide +kernel
theorem dL_law_1711 : decode cL_law 1711 = .ok (.iload 22, 2) := by decide +kernel
theorem dL_law_1713 : decode cL_law 1713 = .ok (.imul, 1) := by decide +kernel
theorem dL_law_1714 : decode cL_law 1714 = .ok (.iconst 2, 1) := by decide +kernel
theorem dL_law_1715 : decode cL_law 1715 = .ok (.iadd, 1) := by decide +kernel
theorem dL_law_1716 : decode cL_law 1716 = .ok (.iaload, 1) := by decide +kernel
theorem dL_law_1717 : decode cL_law 1717 = .ok (.if_icmp .ne 38, 3) := by decide +kernel
theorem dL_law_1720 : decode cL_law 1720 = .ok (.aload_n 1, 1) := by decide +kernel
theorem dL_law_1721 : decode cL_law 1721 = .ok (.iload 22, 2) := by decide +kernel
theorem dL_law_1723 : decode cL_law 1723 = .ok (.iload 20, 2) := by decide +kernel
theorem dL_law_1725 : decode cL_law 1725 = .ok (.invokestatic 84, 3) := by decide +kernel
theorem dL_law_1728 : decode cL_law 1728 = .ok (.aload 9, 2) := by decide +kernel
theorem dL_law_1730 : decode cL_law 1730 = .ok (.iload 22, 2) := by decide +kernel
theorem dL_law_1732 : decode cL_law 1732 = .ok (.iaload, 1) := by decide +kernel
theorem dL_law_1733 : decode cL_law 1733 = .ok (.iconst 1, 1) := by decide +kernel
theorem dL_law_1734 : decode cL_law 1734 = .ok (.if_icmp .ne 11, 3) := by decide +kernel
theorem dL_law_1737 : decode cL_law 1737 = .ok (.aload 11, 2) := by decide +kernel
theorem dL_law_1739 : decode cL_law 1739 = .ok (.iload 22, 2) := by decide +kernel
theorem dL_law_1741 : decode cL_law 1741 = .ok (.iaload, 1) := by decide +kernel
theorem dL_law_1742 : decode cL_law 1742 = .ok (.goto 6, 3) := by decide +kernel
theorem dL_law_1745 : decode cL_law 1745 = .ok (.sipush (-1003), 3) := by decide +kernel
theorem dL_law_1748 : decode cL_law 1748 = .ok (.if_icmp .ne 7, 3) := by decide +kernel
theorem dL_law_1751 : decode cL_law 1751 = .ok (.iconst 1, 1) := by decide +kernel
theorem dL_law_1752 : decode cL_law 1752 = .ok (.goto 4, 3) := by decide +kernel
theorem dL_law_1755 : decode cL_law 1755 = .ok (.iconst 0, 1) := by decide +kernel
theorem dL_law_1756 : decode cL_law 1756 = .ok (.istore 12, 2) := by decide +kernel
theorem dL_law_1758 : decode cL_law 1758 = .ok (.iload 21, 2) := by decide +kernel
theorem dL_law_1760 : decode cL_law 1760 = .ok (.aload 11, 2) := by decide +kernel
theorem dL_law_1762 : decode cL_law 1762 = .ok (.iload 22, 2) := by decide +kernel
theorem dL_law_1764 : decode cL_law 1764 = .ok (.iaload, 1) := by decide +kernel
theorem dL_law_1765 : decode cL_law 1765 = .ok (.ifCond .le 10, 3) := by decide +kernel
theorem dL_law_1768 : decode cL_law 1768 = .ok (.iconst 1, 1) := by decide +kernel
theorem dL_law_1769 : decode cL_law 1769 = .ok (.iload 22, 2) := by decide +kernel
theorem dL_law_1771 : decode cL_law 1771 = .ok (.ishl, 1) := by decide +kernel
theorem dL_law_1772 : decode cL_law 1772 = .ok (.goto 4, 3) := by decide +kernel
theorem dL_law_1775 : decode cL_law 1775 = .ok (.iconst 0, 1) := by decide +kernel
theorem dL_law_1776 : decode cL_law 1776 = .ok (.ior, 1) := by decide +kernel
theorem dL_law_1777 : decode cL_law 1777 = .ok (.istore 21, 2) := by decide +kernel
theorem dL_law_1779 : decode cL_law 1779 = .ok (.iinc 22 1, 3) := by decide +kernel
theorem dL_law_1782 : decode cL_law 1782 = .ok (.goto (-204), 3) := by decide +kernel
theorem dL_law_1785 : decode cL_law 1785 = .ok (.iload 12, 2) := by decide +kernel
theorem dL_law_1787 : decode cL_law 1787 = .ok (.ifCond .eq 18, 3) := by decide +kernel
theorem dL_law_1790 : decode cL_law 1790 = .ok (.aload_n 1, 1) := by decide +kernel
theorem dL_law_1791 : decode cL_law 1791 = .ok (.iload 20, 2) := by decide +kernel
theorem dL_law_1793 : decode cL_law 1793 = .ok (.invokevirtual 86, 3) := by decide +kernel
theorem dL_law_1796 : decode cL_law 1796 = .ok (.iload 21, 2) := by decide +kernel
theorem dL_law_1798 : decode cL_law 1798 = .ok (.if_icmp .ne 7, 3) := by decide +kernel
theorem dL_law_1801 : decode cL_law 1801 = .ok (.iconst 1, 1) := by decide +kernel
theorem dL_law_1802 : decode cL_law 1802 = .ok (.goto 4, 3) := by decide +kernel
theorem dL_law_1805 : decode cL_law 1805 = .ok (.iconst 0, 1) := by decide +kernel
theorem dL_law_1806 : decode cL_law 1806 = .ok (.istore 12, 2) := by decide +kernel
theorem dL_law_1808 : decode cL_law 1808 = .ok (.iinc 15 1, 3) := by decide +kernel
theorem dL_law_1811 : decode cL_law 1811 = .ok (.goto (-1524), 3) := by decide +kernel
theorem dL_law_1814 : decode cL_law 1814 = .ok (.iload 12, 2) := by decide +kernel
theorem dL_law_1816 : decode cL_law 1816 = .ok (.ireturn, 1) := by decide +kernel
