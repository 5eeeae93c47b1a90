/-! the decode rows of the law's own methods -/
theorem dL_cell_0 : decode cL_cell 0 = .ok (.iload_n 1, 1) := by decide +kernel
theorem dL_cell_1 : decode cL_cell 1 = .ok (.aload_n 0, 1) := by decide +kernel
theorem dL_cell_2 : decode cL_cell 2 = .ok (.arraylength, 1) := by decide +kernel
theorem dL_cell_3 : decode cL_cell 3 = .ok (.if_icmp .ge 9, 3) := by decide +kernel
theorem dL_cell_6 : decode cL_cell 6 = .ok (.aload_n 0, 1) := by decide +kernel
theorem dL_cell_7 : decode cL_cell 7 = .ok (.iload_n 1, 1) := by decide +kernel
theorem dL_cell_8 : decode cL_cell 8 = .ok (.iaload, 1) := by decide +kernel
theorem dL_cell_9 : decode cL_cell 9 = .ok (.goto 12, 3) := by decide +kernel
theorem dL_cell_12 : decode cL_cell 12 = .ok (.ldc 7, 2) := by decide +kernel
theorem dL_cell_14 : decode cL_cell 14 = .ok (.iload_n 1, 1) := by decide +kernel
theorem dL_cell_15 : decode cL_cell 15 = .ok (.iconst 1, 1) := by decide +kernel
theorem dL_cell_16 : decode cL_cell 16 = .ok (.iadd, 1) := by decide +kernel
theorem dL_cell_17 : decode cL_cell 17 = .ok (.imul, 1) := by decide +kernel
theorem dL_cell_18 : decode cL_cell 18 = .ok (.ldc 8, 2) := by decide +kernel
theorem dL_cell_20 : decode cL_cell 20 = .ok (.iadd, 1) := by decide +kernel
theorem dL_cell_21 : decode cL_cell 21 = .ok (.ireturn, 1) := by decide +kernel
theorem dL_low_0 : decode cL_low 0 = .ok (.iload_n 0, 1) := by decide +kernel
theorem dL_low_1 : decode cL_low 1 = .ok (.ldc 9, 2) := by decide +kernel
theorem dL_low_3 : decode cL_low 3 = .ok (.iand, 1) := by decide +kernel
theorem dL_low_4 : decode cL_low 4 = .ok (.iload_n 1, 1) := by decide +kernel
theorem dL_low_5 : decode cL_low 5 = .ok (.irem, 1) := by decide +kernel
theorem dL_low_6 : decode cL_low 6 = .ok (.ireturn, 1) := by decide +kernel
theorem dL_kind_0 : decode cL_kind 0 = .ok (.iconst 0, 1) := by decide +kernel
theorem dL_kind_1 : decode cL_kind 1 = .ok (.istore_n 3, 1) := by decide +kernel
theorem dL_kind_2 : decode cL_kind 2 = .ok (.aload_n 2, 1) := by decide +kernel
theorem dL_kind_3 : decode cL_kind 3 = .ok (.iload_n 0, 1) := by decide +kernel
theorem dL_kind_4 : decode cL_kind 4 = .ok (.iaload, 1) := by decide +kernel
theorem dL_kind_5 : decode cL_kind 5 = .ok (.istore 4, 2) := by decide +kernel
theorem dL_kind_7 : decode cL_kind 7 = .ok (.iload 4, 2) := by decide +kernel
theorem dL_kind_9 : decode cL_kind 9 = .ok (.ifCond .le 19, 3) := by decide +kernel
theorem dL_kind_12 : decode cL_kind 12 = .ok (.iload_n 3, 1) := by decide +kernel
theorem dL_kind_13 : decode cL_kind 13 = .ok (.iload 4, 2) := by decide +kernel
theorem dL_kind_15 : decode cL_kind 15 = .ok (.iconst 2, 1) := by decide +kernel
theorem dL_kind_16 : decode cL_kind 16 = .ok (.irem, 1) := by decide +kernel
theorem dL_kind_17 : decode cL_kind 17 = .ok (.iadd, 1) := by decide +kernel
theorem dL_kind_18 : decode cL_kind 18 = .ok (.istore_n 3, 1) := by decide +kernel
theorem dL_kind_19 : decode cL_kind 19 = .ok (.iload 4, 2) := by decide +kernel
theorem dL_kind_21 : decode cL_kind 21 = .ok (.iconst 2, 1) := by decide +kernel
theorem dL_kind_22 : decode cL_kind 22 = .ok (.idiv, 1) := by decide +kernel
theorem dL_kind_23 : decode cL_kind 23 = .ok (.istore 4, 2) := by decide +kernel
theorem dL_kind_25 : decode cL_kind 25 = .ok (.goto (-18), 3) := by decide +kernel
theorem dL_kind_28 : decode cL_kind 28 = .ok (.iload_n 3, 1) := by decide +kernel
theorem dL_kind_29 : decode cL_kind 29 = .ok (.iconst 4, 1) := by decide +kernel
theorem dL_kind_30 : decode cL_kind 30 = .ok (.if_icmp .lt 7, 3) := by decide +kernel
theorem dL_kind_33 : decode cL_kind 33 = .ok (.iconst 2, 1) := by decide +kernel
theorem dL_kind_34 : decode cL_kind 34 = .ok (.goto 17, 3) := by decide +kernel
theorem dL_kind_37 : decode cL_kind 37 = .ok (.aload_n 1, 1) := by decide +kernel
theorem dL_kind_38 : decode cL_kind 38 = .ok (.iload_n 0, 1) := by decide +kernel
theorem dL_kind_39 : decode cL_kind 39 = .ok (.iaload, 1) := by decide +kernel
theorem dL_kind_40 : decode cL_kind 40 = .ok (.bipush 64, 2) := by decide +kernel
theorem dL_kind_42 : decode cL_kind 42 = .ok (.idiv, 1) := by decide +kernel
theorem dL_kind_43 : decode cL_kind 43 = .ok (.ifCond .ne 7, 3) := by decide +kernel
theorem dL_kind_46 : decode cL_kind 46 = .ok (.iconst 0, 1) := by decide +kernel
theorem dL_kind_47 : decode cL_kind 47 = .ok (.goto 4, 3) := by decide +kernel
theorem dL_kind_50 : decode cL_kind 50 = .ok (.iconst 1, 1) := by decide +kernel
theorem dL_kind_51 : decode cL_kind 51 = .ok (.ireturn, 1) := by decide +kernel
theorem dL_like_0 : decode cL_like 0 = .ok (.aload_n 1, 1) := by decide +kernel
theorem dL_like_1 : decode cL_like 1 = .ok (.iload_n 0, 1) := by decide +kernel
theorem dL_like_2 : decode cL_like 2 = .ok (.iaload, 1) := by decide +kernel
theorem dL_like_3 : decode cL_like 3 = .ok (.aload_n 2, 1) := by decide +kernel
theorem dL_like_4 : decode cL_like 4 = .ok (.iload_n 0, 1) := by decide +kernel
theorem dL_like_5 : decode cL_like 5 = .ok (.iaload, 1) := by decide +kernel
theorem dL_like_6 : decode cL_like 6 = .ok (.if_icmp .ne 10, 3) := by decide +kernel
theorem dL_like_9 : decode cL_like 9 = .ok (.aload_n 3, 1) := by decide +kernel
theorem dL_like_10 : decode cL_like 10 = .ok (.iload_n 0, 1) := by decide +kernel
theorem dL_like_11 : decode cL_like 11 = .ok (.iconst (-1), 1) := by decide +kernel
theorem dL_like_12 : decode cL_like 12 = .ok (.iastore, 1) := by decide +kernel
theorem dL_like_13 : decode cL_like 13 = .ok (.goto 16, 3) := by decide +kernel
theorem dL_like_16 : decode cL_like 16 = .ok (.aload_n 3, 1) := by decide +kernel
theorem dL_like_17 : decode cL_like 17 = .ok (.iload_n 0, 1) := by decide +kernel
theorem dL_like_18 : decode cL_like 18 = .ok (.iaload, 1) := by decide +kernel
theorem dL_like_19 : decode cL_like 19 = .ok (.ifCond .ge 10, 3) := by decide +kernel
theorem dL_like_22 : decode cL_like 22 = .ok (.aload_n 3, 1) := by decide +kernel
theorem dL_like_23 : decode cL_like 23 = .ok (.iload_n 0, 1) := by decide +kernel
theorem dL_like_24 : decode cL_like 24 = .ok (.aload 4, 2) := by decide +kernel
theorem dL_like_26 : decode cL_like 26 = .ok (.iconst 0, 1) := by decide +kernel
theorem dL_like_27 : decode cL_like 27 = .ok (.iaload, 1) := by decide +kernel
theorem dL_like_28 : decode cL_like 28 = .ok (.iastore, 1) := by decide +kernel
theorem dL_like_29 : decode cL_like 29 = .ok (.return_, 1) := by decide +kernel
theorem dL_draw_0 : decode cL_draw 0 = .ok (.aload_n 2, 1) := by decide +kernel
theorem dL_draw_1 : decode cL_draw 1 = .ok (.iload_n 0, 1) := by decide +kernel
theorem dL_draw_2 : decode cL_draw 2 = .ok (.iaload, 1) := by decide +kernel
theorem dL_draw_3 : decode cL_draw 3 = .ok (.iload_n 1, 1) := by decide +kernel
theorem dL_draw_4 : decode cL_draw 4 = .ok (.if_icmp .eq 11, 3) := by decide +kernel
theorem dL_draw_7 : decode cL_draw 7 = .ok (.aload 5, 2) := by decide +kernel
theorem dL_draw_9 : decode cL_draw 9 = .ok (.iload_n 0, 1) := by decide +kernel
theorem dL_draw_10 : decode cL_draw 10 = .ok (.dup2, 1) := by decide +kernel
theorem dL_draw_11 : decode cL_draw 11 = .ok (.iaload, 1) := by decide +kernel
theorem dL_draw_12 : decode cL_draw 12 = .ok (.iconst 1, 1) := by decide +kernel
theorem dL_draw_13 : decode cL_draw 13 = .ok (.ior, 1) := by decide +kernel
theorem dL_draw_14 : decode cL_draw 14 = .ok (.iastore, 1) := by decide +kernel
theorem dL_draw_15 : decode cL_draw 15 = .ok (.aload_n 2, 1) := by decide +kernel
theorem dL_draw_16 : decode cL_draw 16 = .ok (.iload_n 0, 1) := by decide +kernel
theorem dL_draw_17 : decode cL_draw 17 = .ok (.iload_n 1, 1) := by decide +kernel
theorem dL_draw_18 : decode cL_draw 18 = .ok (.iastore, 1) := by decide +kernel
theorem dL_draw_19 : decode cL_draw 19 = .ok (.iload_n 0, 1) := by decide +kernel
theorem dL_draw_20 : decode cL_draw 20 = .ok (.aload_n 2, 1) := by decide +kernel
theorem dL_draw_21 : decode cL_draw 21 = .ok (.aload_n 3, 1) := by decide +kernel
theorem dL_draw_22 : decode cL_draw 22 = .ok (.aload 4, 2) := by decide +kernel
theorem dL_draw_24 : decode cL_draw 24 = .ok (.aload 6, 2) := by decide +kernel
theorem dL_draw_26 : decode cL_draw 26 = .ok (.invokestatic 10, 3) := by decide +kernel
theorem dL_draw_29 : decode cL_draw 29 = .ok (.return_, 1) := by decide +kernel
theorem dL_shift_0 : decode cL_shift 0 = .ok (.bipush 8, 2) := by decide +kernel
theorem dL_shift_2 : decode cL_shift 2 = .ok (.aload_n 1, 1) := by decide +kernel
theorem dL_shift_3 : decode cL_shift 3 = .ok (.iload_n 2, 1) := by decide +kernel
theorem dL_shift_4 : decode cL_shift 4 = .ok (.iconst 5, 1) := by decide +kernel
theorem dL_shift_5 : decode cL_shift 5 = .ok (.iadd, 1) := by decide +kernel
theorem dL_shift_6 : decode cL_shift 6 = .ok (.iaload, 1) := by decide +kernel
theorem dL_shift_7 : decode cL_shift 7 = .ok (.aload_n 1, 1) := by decide +kernel
theorem dL_shift_8 : decode cL_shift 8 = .ok (.iload_n 2, 1) := by decide +kernel
theorem dL_shift_9 : decode cL_shift 9 = .ok (.iconst 1, 1) := by decide +kernel
theorem dL_shift_10 : decode cL_shift 10 = .ok (.iadd, 1) := by decide +kernel
theorem dL_shift_11 : decode cL_shift 11 = .ok (.iaload, 1) := by decide +kernel
theorem dL_shift_12 : decode cL_shift 12 = .ok (.isub, 1) := by decide +kernel
theorem dL_shift_13 : decode cL_shift 13 = .ok (.imul, 1) := by decide +kernel
theorem dL_shift_14 : decode cL_shift 14 = .ok (.aload_n 1, 1) := by decide +kernel
theorem dL_shift_15 : decode cL_shift 15 = .ok (.iload_n 2, 1) := by decide +kernel
theorem dL_shift_16 : decode cL_shift 16 = .ok (.iconst 4, 1) := by decide +kernel
theorem dL_shift_17 : decode cL_shift 17 = .ok (.iadd, 1) := by decide +kernel
theorem dL_shift_18 : decode cL_shift 18 = .ok (.iaload, 1) := by decide +kernel
theorem dL_shift_19 : decode cL_shift 19 = .ok (.iadd, 1) := by decide +kernel
theorem dL_shift_20 : decode cL_shift 20 = .ok (.aload_n 1, 1) := by decide +kernel
theorem dL_shift_21 : decode cL_shift 21 = .ok (.iload_n 2, 1) := by decide +kernel
theorem dL_shift_22 : decode cL_shift 22 = .ok (.iaload, 1) := by decide +kernel
theorem dL_shift_23 : decode cL_shift 23 = .ok (.isub, 1) := by decide +kernel
theorem dL_shift_24 : decode cL_shift 24 = .ok (.istore_n 3, 1) := by decide +kernel
theorem dL_shift_25 : decode cL_shift 25 = .ok (.aload_n 1, 1) := by decide +kernel
theorem dL_shift_26 : decode cL_shift 26 = .ok (.iload_n 2, 1) := by decide +kernel
theorem dL_shift_27 : decode cL_shift 27 = .ok (.iconst 2, 1) := by decide +kernel
theorem dL_shift_28 : decode cL_shift 28 = .ok (.iadd, 1) := by decide +kernel
theorem dL_shift_29 : decode cL_shift 29 = .ok (.iaload, 1) := by decide +kernel
theorem dL_shift_30 : decode cL_shift 30 = .ok (.aload_n 1, 1) := by decide +kernel
theorem dL_shift_31 : decode cL_shift 31 = .ok (.iload_n 2, 1) := by decide +kernel
theorem dL_shift_32 : decode cL_shift 32 = .ok (.iconst 3, 1) := by decide +kernel
theorem dL_shift_33 : decode cL_shift 33 = .ok (.iadd, 1) := by decide +kernel
theorem dL_shift_34 : decode cL_shift 34 = .ok (.iaload, 1) := by decide +kernel
theorem dL_shift_35 : decode cL_shift 35 = .ok (.imul, 1) := by decide +kernel
theorem dL_shift_36 : decode cL_shift 36 = .ok (.istore 4, 2) := by decide +kernel
theorem dL_shift_38 : decode cL_shift 38 = .ok (.iconst 0, 1) := by decide +kernel
theorem dL_shift_39 : decode cL_shift 39 = .ok (.istore 5, 2) := by decide +kernel
theorem dL_shift_41 : decode cL_shift 41 = .ok (.iload 5, 2) := by decide +kernel
theorem dL_shift_43 : decode cL_shift 43 = .ok (.iload 4, 2) := by decide +kernel
theorem dL_shift_45 : decode cL_shift 45 = .ok (.if_icmp .ge 69, 3) := by decide +kernel
theorem dL_shift_48 : decode cL_shift 48 = .ok (.iload_n 3, 1) := by decide +kernel
theorem dL_shift_49 : decode cL_shift 49 = .ok (.ifCond .le 13, 3) := by decide +kernel
theorem dL_shift_52 : decode cL_shift 52 = .ok (.iload 4, 2) := by decide +kernel
theorem dL_shift_54 : decode cL_shift 54 = .ok (.iconst 1, 1) := by decide +kernel
theorem dL_shift_55 : decode cL_shift 55 = .ok (.isub, 1) := by decide +kernel
theorem dL_shift_56 : decode cL_shift 56 = .ok (.iload 5, 2) := by decide +kernel
theorem dL_shift_58 : decode cL_shift 58 = .ok (.isub, 1) := by decide +kernel
theorem dL_shift_59 : decode cL_shift 59 = .ok (.goto 5, 3) := by decide +kernel
theorem dL_shift_62 : decode cL_shift 62 = .ok (.iload 5, 2) := by decide +kernel
theorem dL_shift_64 : decode cL_shift 64 = .ok (.istore 6, 2) := by decide +kernel
theorem dL_shift_66 : decode cL_shift 66 = .ok (.bipush 8, 2) := by decide +kernel
theorem dL_shift_68 : decode cL_shift 68 = .ok (.aload_n 1, 1) := by decide +kernel
theorem dL_shift_69 : decode cL_shift 69 = .ok (.iload_n 2, 1) := by decide +kernel
theorem dL_shift_70 : decode cL_shift 70 = .ok (.iconst 1, 1) := by decide +kernel
theorem dL_shift_71 : decode cL_shift 71 = .ok (.iadd, 1) := by decide +kernel
theorem dL_shift_72 : decode cL_shift 72 = .ok (.iaload, 1) := by decide +kernel
theorem dL_shift_73 : decode cL_shift 73 = .ok (.iload 6, 2) := by decide +kernel
theorem dL_shift_75 : decode cL_shift 75 = .ok (.aload_n 1, 1) := by decide +kernel
theorem dL_shift_76 : decode cL_shift 76 = .ok (.iload_n 2, 1) := by decide +kernel
theorem dL_shift_77 : decode cL_shift 77 = .ok (.iconst 2, 1) := by decide +kernel
theorem dL_shift_78 : decode cL_shift 78 = .ok (.iadd, 1) := by decide +kernel
theorem dL_shift_79 : decode cL_shift 79 = .ok (.iaload, 1) := by decide +kernel
theorem dL_shift_80 : decode cL_shift 80 = .ok (.idiv, 1) := by decide +kernel
theorem dL_shift_81 : decode cL_shift 81 = .ok (.iadd, 1) := by decide +kernel
theorem dL_shift_82 : decode cL_shift 82 = .ok (.imul, 1) := by decide +kernel
theorem dL_shift_83 : decode cL_shift 83 = .ok (.aload_n 1, 1) := by decide +kernel
theorem dL_shift_84 : decode cL_shift 84 = .ok (.iload_n 2, 1) := by decide +kernel
theorem dL_shift_85 : decode cL_shift 85 = .ok (.iaload, 1) := by decide +kernel
theorem dL_shift_86 : decode cL_shift 86 = .ok (.iadd, 1) := by decide +kernel
theorem dL_shift_87 : decode cL_shift 87 = .ok (.iload 6, 2) := by decide +kernel
theorem dL_shift_89 : decode cL_shift 89 = .ok (.aload_n 1, 1) := by decide +kernel
theorem dL_shift_90 : decode cL_shift 90 = .ok (.iload_n 2, 1) := by decide +kernel
theorem dL_shift_91 : decode cL_shift 91 = .ok (.iconst 2, 1) := by decide +kernel
theorem dL_shift_92 : decode cL_shift 92 = .ok (.iadd, 1) := by decide +kernel
theorem dL_shift_93 : decode cL_shift 93 = .ok (.iaload, 1) := by decide +kernel
theorem dL_shift_94 : decode cL_shift 94 = .ok (.irem, 1) := by decide +kernel
theorem dL_shift_95 : decode cL_shift 95 = .ok (.iadd, 1) := by decide +kernel
theorem dL_shift_96 : decode cL_shift 96 = .ok (.istore 7, 2) := by decide +kernel
theorem dL_shift_98 : decode cL_shift 98 = .ok (.aload_n 0, 1) := by decide +kernel
theorem dL_shift_99 : decode cL_shift 99 = .ok (.iload 7, 2) := by decide +kernel
theorem dL_shift_101 : decode cL_shift 101 = .ok (.iload_n 3, 1) := by decide +kernel
theorem dL_shift_102 : decode cL_shift 102 = .ok (.iadd, 1) := by decide +kernel
theorem dL_shift_103 : decode cL_shift 103 = .ok (.aload_n 0, 1) := by decide +kernel
theorem dL_shift_104 : decode cL_shift 104 = .ok (.iload 7, 2) := by decide +kernel
theorem dL_shift_106 : decode cL_shift 106 = .ok (.iaload, 1) := by decide +kernel
theorem dL_shift_107 : decode cL_shift 107 = .ok (.iastore, 1) := by decide +kernel
theorem dL_shift_108 : decode cL_shift 108 = .ok (.iinc 5 1, 3) := by decide +kernel
theorem dL_shift_111 : decode cL_shift 111 = .ok (.goto (-70), 3) := by decide +kernel
theorem dL_shift_114 : decode cL_shift 114 = .ok (.return_, 1) := by decide +kernel
theorem dL_meet_0 : decode cL_meet 0 = .ok (.iconst 0, 1) := by decide +kernel
theorem dL_meet_1 : decode cL_meet 1 = .ok (.istore_n 3, 1) := by decide +kernel
theorem dL_meet_2 : decode cL_meet 2 = .ok (.iload_n 3, 1) := by decide +kernel
theorem dL_meet_3 : decode cL_meet 3 = .ok (.bipush 8, 2) := by decide +kernel
theorem dL_meet_5 : decode cL_meet 5 = .ok (.if_icmp .ge 67, 3) := by decide +kernel
theorem dL_meet_8 : decode cL_meet 8 = .ok (.aload_n 1, 1) := by decide +kernel
theorem dL_meet_9 : decode cL_meet 9 = .ok (.iload_n 3, 1) := by decide +kernel
theorem dL_meet_10 : decode cL_meet 10 = .ok (.iaload, 1) := by decide +kernel
theorem dL_meet_11 : decode cL_meet 11 = .ok (.iload_n 0, 1) := by decide +kernel
theorem dL_meet_12 : decode cL_meet 12 = .ok (.iconst 1, 1) := by decide +kernel
theorem dL_meet_13 : decode cL_meet 13 = .ok (.iadd, 1) := by decide +kernel
theorem dL_meet_14 : decode cL_meet 14 = .ok (.if_icmp .eq 6, 3) := by decide +kernel
theorem dL_meet_17 : decode cL_meet 17 = .ok (.goto 49, 3) := by decide +kernel
theorem dL_meet_20 : decode cL_meet 20 = .ok (.iload_n 3, 1) := by decide +kernel
theorem dL_meet_21 : decode cL_meet 21 = .ok (.istore 4, 2) := by decide +kernel
theorem dL_meet_23 : decode cL_meet 23 = .ok (.iload 4, 2) := by decide +kernel
theorem dL_meet_25 : decode cL_meet 25 = .ok (.ifCond .le 23, 3) := by decide +kernel
theorem dL_meet_28 : decode cL_meet 28 = .ok (.iload_n 2, 1) := by decide +kernel
theorem dL_meet_29 : decode cL_meet 29 = .ok (.ifCond .ne 19, 3) := by decide +kernel
theorem dL_meet_32 : decode cL_meet 32 = .ok (.aload_n 1, 1) := by decide +kernel
theorem dL_meet_33 : decode cL_meet 33 = .ok (.iload 4, 2) := by decide +kernel
theorem dL_meet_35 : decode cL_meet 35 = .ok (.aload_n 1, 1) := by decide +kernel
theorem dL_meet_36 : decode cL_meet 36 = .ok (.iload 4, 2) := by decide +kernel
theorem dL_meet_38 : decode cL_meet 38 = .ok (.iconst 1, 1) := by decide +kernel
theorem dL_meet_39 : decode cL_meet 39 = .ok (.isub, 1) := by decide +kernel
theorem dL_meet_40 : decode cL_meet 40 = .ok (.iaload, 1) := by decide +kernel
theorem dL_meet_41 : decode cL_meet 41 = .ok (.iastore, 1) := by decide +kernel
theorem dL_meet_42 : decode cL_meet 42 = .ok (.iinc 4 (-1), 3) := by decide +kernel
theorem dL_meet_45 : decode cL_meet 45 = .ok (.goto (-22), 3) := by decide +kernel
theorem dL_meet_48 : decode cL_meet 48 = .ok (.aload_n 1, 1) := by decide +kernel
theorem dL_meet_49 : decode cL_meet 49 = .ok (.iconst 0, 1) := by decide +kernel
theorem dL_meet_50 : decode cL_meet 50 = .ok (.iload_n 2, 1) := by decide +kernel
theorem dL_meet_51 : decode cL_meet 51 = .ok (.ifCond .eq 9, 3) := by decide +kernel
theorem dL_meet_54 : decode cL_meet 54 = .ok (.aload_n 1, 1) := by decide +kernel
theorem dL_meet_55 : decode cL_meet 55 = .ok (.iconst 0, 1) := by decide +kernel
theorem dL_meet_56 : decode cL_meet 56 = .ok (.iaload, 1) := by decide +kernel
theorem dL_meet_57 : decode cL_meet 57 = .ok (.goto 6, 3) := by decide +kernel
theorem dL_meet_60 : decode cL_meet 60 = .ok (.iload_n 0, 1) := by decide +kernel
theorem dL_meet_61 : decode cL_meet 61 = .ok (.iconst 1, 1) := by decide +kernel
theorem dL_meet_62 : decode cL_meet 62 = .ok (.iadd, 1) := by decide +kernel
theorem dL_meet_63 : decode cL_meet 63 = .ok (.iastore, 1) := by decide +kernel
theorem dL_meet_64 : decode cL_meet 64 = .ok (.iconst 1, 1) := by decide +kernel
theorem dL_meet_65 : decode cL_meet 65 = .ok (.ireturn, 1) := by decide +kernel
theorem dL_meet_66 : decode cL_meet 66 = .ok (.iinc 3 1, 3) := by decide +kernel
theorem dL_meet_69 : decode cL_meet 69 = .ok (.goto (-67), 3) := by decide +kernel
theorem dL_meet_72 : decode cL_meet 72 = .ok (.bipush 7, 2) := by decide +kernel
theorem dL_meet_74 : decode cL_meet 74 = .ok (.istore_n 3, 1) := by decide +kernel
theorem dL_meet_75 : decode cL_meet 75 = .ok (.iload_n 3, 1) := by decide +kernel
theorem dL_meet_76 : decode cL_meet 76 = .ok (.ifCond .le 21, 3) := by decide +kernel
theorem dL_meet_79 : decode cL_meet 79 = .ok (.iload_n 2, 1) := by decide +kernel
theorem dL_meet_80 : decode cL_meet 80 = .ok (.ifCond .ne 17, 3) := by decide +kernel
theorem dL_meet_83 : decode cL_meet 83 = .ok (.aload_n 1, 1) := by decide +kernel
theorem dL_meet_84 : decode cL_meet 84 = .ok (.iload_n 3, 1) := by decide +kernel
theorem dL_meet_85 : decode cL_meet 85 = .ok (.aload_n 1, 1) := by decide +kernel
theorem dL_meet_86 : decode cL_meet 86 = .ok (.iload_n 3, 1) := by decide +kernel
theorem dL_meet_87 : decode cL_meet 87 = .ok (.iconst 1, 1) := by decide +kernel
theorem dL_meet_88 : decode cL_meet 88 = .ok (.isub, 1) := by decide +kernel
theorem dL_meet_89 : decode cL_meet 89 = .ok (.iaload, 1) := by decide +kernel
theorem dL_meet_90 : decode cL_meet 90 = .ok (.iastore, 1) := by decide +kernel
theorem dL_meet_91 : decode cL_meet 91 = .ok (.iinc 3 (-1), 3) := by decide +kernel
theorem dL_meet_94 : decode cL_meet 94 = .ok (.goto (-19), 3) := by decide +kernel
theorem dL_meet_97 : decode cL_meet 97 = .ok (.aload_n 1, 1) := by decide +kernel
theorem dL_meet_98 : decode cL_meet 98 = .ok (.iconst 0, 1) := by decide +kernel
theorem dL_meet_99 : decode cL_meet 99 = .ok (.iload_n 2, 1) := by decide +kernel
theorem dL_meet_100 : decode cL_meet 100 = .ok (.ifCond .eq 9, 3) := by decide +kernel
theorem dL_meet_103 : decode cL_meet 103 = .ok (.aload_n 1, 1) := by decide +kernel
theorem dL_meet_104 : decode cL_meet 104 = .ok (.iconst 0, 1) := by decide +kernel
theorem dL_meet_105 : decode cL_meet 105 = .ok (.iaload, 1) := by decide +kernel
theorem dL_meet_106 : decode cL_meet 106 = .ok (.goto 6, 3) := by decide +kernel
theorem dL_meet_109 : decode cL_meet 109 = .ok (.iload_n 0, 1) := by decide +kernel
theorem dL_meet_110 : decode cL_meet 110 = .ok (.iconst 1, 1) := by decide +kernel
theorem dL_meet_111 : decode cL_meet 111 = .ok (.iadd, 1) := by decide +kernel
theorem dL_meet_112 : decode cL_meet 112 = .ok (.iastore, 1) := by decide +kernel
theorem dL_meet_113 : decode cL_meet 113 = .ok (.iconst 0, 1) := by decide +kernel
theorem dL_meet_114 : decode cL_meet 114 = .ok (.ireturn, 1) := by decide +kernel
theorem dL_step_0 : decode cL_step 0 = .ok (.iload_n 0, 1) := by decide +kernel
theorem dL_step_1 : decode cL_step 1 = .ok (.istore 8, 2) := by decide +kernel
theorem dL_step_3 : decode cL_step 3 = .ok (.aload 7, 2) := by decide +kernel
theorem dL_step_5 : decode cL_step 5 = .ok (.iconst 2, 1) := by decide +kernel
theorem dL_step_6 : decode cL_step 6 = .ok (.iaload, 1) := by decide +kernel
theorem dL_step_7 : decode cL_step 7 = .ok (.ifCond .le 93, 3) := by decide +kernel
theorem dL_step_10 : decode cL_step 10 = .ok (.iload 8, 2) := by decide +kernel
theorem dL_step_12 : decode cL_step 12 = .ok (.iconst 1, 1) := by decide +kernel
theorem dL_step_13 : decode cL_step 13 = .ok (.if_icmp .le 87, 3) := by decide +kernel
theorem dL_step_16 : decode cL_step 16 = .ok (.aload_n 2, 1) := by decide +kernel
theorem dL_step_17 : decode cL_step 17 = .ok (.aload 5, 2) := by decide +kernel
theorem dL_step_19 : decode cL_step 19 = .ok (.iconst 0, 1) := by decide +kernel
theorem dL_step_20 : decode cL_step 20 = .ok (.invokestatic 16, 3) := by decide +kernel
theorem dL_step_23 : decode cL_step 23 = .ok (.iconst 0, 1) := by decide +kernel
theorem dL_step_24 : decode cL_step 24 = .ok (.istore 9, 2) := by decide +kernel
theorem dL_step_26 : decode cL_step 26 = .ok (.iload 9, 2) := by decide +kernel
theorem dL_step_28 : decode cL_step 28 = .ok (.bipush 48, 2) := by decide +kernel
theorem dL_step_30 : decode cL_step 30 = .ok (.if_icmp .ge 19, 3) := by decide +kernel
theorem dL_step_33 : decode cL_step 33 = .ok (.iload 9, 2) := by decide +kernel
theorem dL_step_35 : decode cL_step 35 = .ok (.aload_n 1, 1) := by decide +kernel
theorem dL_step_36 : decode cL_step 36 = .ok (.aload_n 2, 1) := by decide +kernel
theorem dL_step_37 : decode cL_step 37 = .ok (.aload_n 3, 1) := by decide +kernel
theorem dL_step_38 : decode cL_step 38 = .ok (.aload 7, 2) := by decide +kernel
theorem dL_step_40 : decode cL_step 40 = .ok (.invokestatic 10, 3) := by decide +kernel
theorem dL_step_43 : decode cL_step 43 = .ok (.iinc 9 1, 3) := by decide +kernel
theorem dL_step_46 : decode cL_step 46 = .ok (.goto (-20), 3) := by decide +kernel
theorem dL_step_49 : decode cL_step 49 = .ok (.iconst 0, 1) := by decide +kernel
theorem dL_step_50 : decode cL_step 50 = .ok (.istore 9, 2) := by decide +kernel
theorem dL_step_52 : decode cL_step 52 = .ok (.iload 9, 2) := by decide +kernel
theorem dL_step_54 : decode cL_step 54 = .ok (.bipush 18, 2) := by decide +kernel
theorem dL_step_56 : decode cL_step 56 = .ok (.if_icmp .ge 22, 3) := by decide +kernel
theorem dL_step_59 : decode cL_step 59 = .ok (.aload 5, 2) := by decide +kernel
theorem dL_step_61 : decode cL_step 61 = .ok (.iload 9, 2) := by decide +kernel
theorem dL_step_63 : decode cL_step 63 = .ok (.aload 5, 2) := by decide +kernel
theorem dL_step_65 : decode cL_step 65 = .ok (.iload 9, 2) := by decide +kernel
theorem dL_step_67 : decode cL_step 67 = .ok (.bipush 6, 2) := by decide +kernel
theorem dL_step_69 : decode cL_step 69 = .ok (.iadd, 1) := by decide +kernel
theorem dL_step_70 : decode cL_step 70 = .ok (.iaload, 1) := by decide +kernel
theorem dL_step_71 : decode cL_step 71 = .ok (.iastore, 1) := by decide +kernel
theorem dL_step_72 : decode cL_step 72 = .ok (.iinc 9 1, 3) := by decide +kernel
theorem dL_step_75 : decode cL_step 75 = .ok (.goto (-23), 3) := by decide +kernel
theorem dL_step_78 : decode cL_step 78 = .ok (.aload 7, 2) := by decide +kernel
theorem dL_step_80 : decode cL_step 80 = .ok (.iconst 2, 1) := by decide +kernel
theorem dL_step_81 : decode cL_step 81 = .ok (.dup2, 1) := by decide +kernel
theorem dL_step_82 : decode cL_step 82 = .ok (.iaload, 1) := by decide +kernel
theorem dL_step_83 : decode cL_step 83 = .ok (.iconst 1, 1) := by decide +kernel
theorem dL_step_84 : decode cL_step 84 = .ok (.isub, 1) := by decide +kernel
theorem dL_step_85 : decode cL_step 85 = .ok (.iastore, 1) := by decide +kernel
theorem dL_step_86 : decode cL_step 86 = .ok (.aload 7, 2) := by decide +kernel
theorem dL_step_88 : decode cL_step 88 = .ok (.iconst 4, 1) := by decide +kernel
theorem dL_step_89 : decode cL_step 89 = .ok (.dup2, 1) := by decide +kernel
theorem dL_step_90 : decode cL_step 90 = .ok (.iaload, 1) := by decide +kernel
theorem dL_step_91 : decode cL_step 91 = .ok (.iconst 1, 1) := by decide +kernel
theorem dL_step_92 : decode cL_step 92 = .ok (.iadd, 1) := by decide +kernel
theorem dL_step_93 : decode cL_step 93 = .ok (.iastore, 1) := by decide +kernel
theorem dL_step_94 : decode cL_step 94 = .ok (.iinc 8 (-2), 3) := by decide +kernel
theorem dL_step_97 : decode cL_step 97 = .ok (.goto (-94), 3) := by decide +kernel
theorem dL_step_100 : decode cL_step 100 = .ok (.bipush 48, 2) := by decide +kernel
theorem dL_step_102 : decode cL_step 102 = .ok (.newarray .int, 2) := by decide +kernel
theorem dL_step_104 : decode cL_step 104 = .ok (.astore 9, 2) := by decide +kernel
theorem dL_step_106 : decode cL_step 106 = .ok (.iconst 0, 1) := by decide +kernel
theorem dL_step_107 : decode cL_step 107 = .ok (.istore 10, 2) := by decide +kernel
theorem dL_step_109 : decode cL_step 109 = .ok (.aload 7, 2) := by decide +kernel
theorem dL_step_111 : decode cL_step 111 = .ok (.iconst 0, 1) := by decide +kernel
theorem dL_step_112 : decode cL_step 112 = .ok (.iaload, 1) := by decide +kernel
theorem dL_step_113 : decode cL_step 113 = .ok (.iconst 5, 1) := by decide +kernel
theorem dL_step_114 : decode cL_step 114 = .ok (.iadd, 1) := by decide +kernel
theorem dL_step_115 : decode cL_step 115 = .ok (.istore 11, 2) := by decide +kernel
theorem dL_step_117 : decode cL_step 117 = .ok (.iload 11, 2) := by decide +kernel
theorem dL_step_119 : decode cL_step 119 = .ok (.ifCond .lt 127, 3) := by decide +kernel
theorem dL_step_122 : decode cL_step 122 = .ok (.aload 7, 2) := by decide +kernel
theorem dL_step_124 : decode cL_step 124 = .ok (.iconst 2, 1) := by decide +kernel
theorem dL_step_125 : decode cL_step 125 = .ok (.iaload, 1) := by decide +kernel
theorem dL_step_126 : decode cL_step 126 = .ok (.ifCond .ne 120, 3) := by decide +kernel
theorem dL_step_129 : decode cL_step 129 = .ok (.iconst 0, 1) := by decide +kernel
theorem dL_step_130 : decode cL_step 130 = .ok (.istore 12, 2) := by decide +kernel
theorem dL_step_132 : decode cL_step 132 = .ok (.iload 12, 2) := by decide +kernel
theorem dL_step_134 : decode cL_step 134 = .ok (.bipush 48, 2) := by decide +kernel
theorem dL_step_136 : decode cL_step 136 = .ok (.if_icmp .ge 104, 3) := by decide +kernel
theorem dL_step_139 : decode cL_step 139 = .ok (.aload_n 3, 1) := by decide +kernel
theorem dL_step_140 : decode cL_step 140 = .ok (.iload 12, 2) := by decide +kernel
theorem dL_step_142 : decode cL_step 142 = .ok (.iaload, 1) := by decide +kernel
theorem dL_step_143 : decode cL_step 143 = .ok (.ifCond .ge 6, 3) := by decide +kernel
theorem dL_step_146 : decode cL_step 146 = .ok (.goto 88, 3) := by decide +kernel
theorem dL_step_149 : decode cL_step 149 = .ok (.iload 12, 2) := by decide +kernel
theorem dL_step_151 : decode cL_step 151 = .ok (.bipush 8, 2) := by decide +kernel
theorem dL_step_153 : decode cL_step 153 = .ok (.irem, 1) := by decide +kernel
theorem dL_step_154 : decode cL_step 154 = .ok (.aload 7, 2) := by decide +kernel
theorem dL_step_156 : decode cL_step 156 = .ok (.iconst 1, 1) := by decide +kernel
theorem dL_step_157 : decode cL_step 157 = .ok (.iaload, 1) := by decide +kernel
theorem dL_step_158 : decode cL_step 158 = .ok (.bipush 8, 2) := by decide +kernel
theorem dL_step_160 : decode cL_step 160 = .ok (.irem, 1) := by decide +kernel
theorem dL_step_161 : decode cL_step 161 = .ok (.isub, 1) := by decide +kernel
theorem dL_step_162 : decode cL_step 162 = .ok (.istore 13, 2) := by decide +kernel
theorem dL_step_164 : decode cL_step 164 = .ok (.iload 12, 2) := by decide +kernel
theorem dL_step_166 : decode cL_step 166 = .ok (.bipush 8, 2) := by decide +kernel
theorem dL_step_168 : decode cL_step 168 = .ok (.idiv, 1) := by decide +kernel
theorem dL_step_169 : decode cL_step 169 = .ok (.aload 7, 2) := by decide +kernel
theorem dL_step_171 : decode cL_step 171 = .ok (.iconst 1, 1) := by decide +kernel
theorem dL_step_172 : decode cL_step 172 = .ok (.iaload, 1) := by decide +kernel
theorem dL_step_173 : decode cL_step 173 = .ok (.bipush 8, 2) := by decide +kernel
theorem dL_step_175 : decode cL_step 175 = .ok (.idiv, 1) := by decide +kernel
theorem dL_step_176 : decode cL_step 176 = .ok (.isub, 1) := by decide +kernel
theorem dL_step_177 : decode cL_step 177 = .ok (.istore 14, 2) := by decide +kernel
theorem dL_step_179 : decode cL_step 179 = .ok (.aload 7, 2) := by decide +kernel
theorem dL_step_181 : decode cL_step 181 = .ok (.iconst 0, 1) := by decide +kernel
theorem dL_step_182 : decode cL_step 182 = .ok (.iaload, 1) := by decide +kernel
theorem dL_step_183 : decode cL_step 183 = .ok (.aload_n 3, 1) := by decide +kernel
theorem dL_step_184 : decode cL_step 184 = .ok (.iload 12, 2) := by decide +kernel
theorem dL_step_186 : decode cL_step 186 = .ok (.iaload, 1) := by decide +kernel
theorem dL_step_187 : decode cL_step 187 = .ok (.isub, 1) := by decide +kernel
theorem dL_step_188 : decode cL_step 188 = .ok (.iload 13, 2) := by decide +kernel
theorem dL_step_190 : decode cL_step 190 = .ok (.iload 13, 2) := by decide +kernel
theorem dL_step_192 : decode cL_step 192 = .ok (.imul, 1) := by decide +kernel
theorem dL_step_193 : decode cL_step 193 = .ok (.iconst 2, 1) := by decide +kernel
theorem dL_step_194 : decode cL_step 194 = .ok (.if_icmp .ge 16, 3) := by decide +kernel
theorem dL_step_197 : decode cL_step 197 = .ok (.iload 14, 2) := by decide +kernel
theorem dL_step_199 : decode cL_step 199 = .ok (.iload 14, 2) := by decide +kernel
theorem dL_step_201 : decode cL_step 201 = .ok (.imul, 1) := by decide +kernel
theorem dL_step_202 : decode cL_step 202 = .ok (.iconst 2, 1) := by decide +kernel
theorem dL_step_203 : decode cL_step 203 = .ok (.if_icmp .ge 7, 3) := by decide +kernel
theorem dL_step_206 : decode cL_step 206 = .ok (.iconst 5, 1) := by decide +kernel
theorem dL_step_207 : decode cL_step 207 = .ok (.goto 4, 3) := by decide +kernel
theorem dL_step_210 : decode cL_step 210 = .ok (.iconst 0, 1) := by decide +kernel
theorem dL_step_211 : decode cL_step 211 = .ok (.iadd, 1) := by decide +kernel
theorem dL_step_212 : decode cL_step 212 = .ok (.istore 15, 2) := by decide +kernel
theorem dL_step_214 : decode cL_step 214 = .ok (.iload 15, 2) := by decide +kernel
theorem dL_step_216 : decode cL_step 216 = .ok (.iload 11, 2) := by decide +kernel
theorem dL_step_218 : decode cL_step 218 = .ok (.if_icmp .eq 6, 3) := by decide +kernel
theorem dL_step_221 : decode cL_step 221 = .ok (.goto 13, 3) := by decide +kernel
theorem dL_step_224 : decode cL_step 224 = .ok (.aload 9, 2) := by decide +kernel
theorem dL_step_226 : decode cL_step 226 = .ok (.iload 10, 2) := by decide +kernel
theorem dL_step_228 : decode cL_step 228 = .ok (.iload 12, 2) := by decide +kernel
theorem dL_step_230 : decode cL_step 230 = .ok (.iastore, 1) := by decide +kernel
theorem dL_step_231 : decode cL_step 231 = .ok (.iinc 10 1, 3) := by decide +kernel
theorem dL_step_234 : decode cL_step 234 = .ok (.iinc 12 1, 3) := by decide +kernel
theorem dL_step_237 : decode cL_step 237 = .ok (.goto (-105), 3) := by decide +kernel
theorem dL_step_240 : decode cL_step 240 = .ok (.iinc 11 (-1), 3) := by decide +kernel
theorem dL_step_243 : decode cL_step 243 = .ok (.goto (-126), 3) := by decide +kernel
theorem dL_step_246 : decode cL_step 246 = .ok (.iconst 0, 1) := by decide +kernel
theorem dL_step_247 : decode cL_step 247 = .ok (.istore 11, 2) := by decide +kernel
theorem dL_step_249 : decode cL_step 249 = .ok (.iload 11, 2) := by decide +kernel
theorem dL_step_251 : decode cL_step 251 = .ok (.iload 10, 2) := by decide +kernel
theorem dL_step_253 : decode cL_step 253 = .ok (.if_icmp .ge 191, 3) := by decide +kernel
theorem dL_step_256 : decode cL_step 256 = .ok (.aload 9, 2) := by decide +kernel
theorem dL_step_258 : decode cL_step 258 = .ok (.iload 11, 2) := by decide +kernel
theorem dL_step_260 : decode cL_step 260 = .ok (.iaload, 1) := by decide +kernel
theorem dL_step_261 : decode cL_step 261 = .ok (.istore 12, 2) := by decide +kernel
theorem dL_step_263 : decode cL_step 263 = .ok (.aload_n 1, 1) := by decide +kernel
theorem dL_step_264 : decode cL_step 264 = .ok (.iload 12, 2) := by decide +kernel
theorem dL_step_266 : decode cL_step 266 = .ok (.iaload, 1) := by decide +kernel
theorem dL_step_267 : decode cL_step 267 = .ok (.aload 6, 2) := by decide +kernel
theorem dL_step_269 : decode cL_step 269 = .ok (.iconst 1, 1) := by decide +kernel
theorem dL_step_270 : decode cL_step 270 = .ok (.invokestatic 20, 3) := by decide +kernel
theorem dL_step_273 : decode cL_step 273 = .ok (.iconst 1, 1) := by decide +kernel
theorem dL_step_274 : decode cL_step 274 = .ok (.if_icmp .ne 7, 3) := by decide +kernel
theorem dL_step_277 : decode cL_step 277 = .ok (.iconst 1, 1) := by decide +kernel
theorem dL_step_278 : decode cL_step 278 = .ok (.goto 20, 3) := by decide +kernel
theorem dL_step_281 : decode cL_step 281 = .ok (.iload 12, 2) := by decide +kernel
theorem dL_step_283 : decode cL_step 283 = .ok (.aload_n 1, 1) := by decide +kernel
theorem dL_step_284 : decode cL_step 284 = .ok (.aload 4, 2) := by decide +kernel
theorem dL_step_286 : decode cL_step 286 = .ok (.invokestatic 24, 3) := by decide +kernel
theorem dL_step_289 : decode cL_step 289 = .ok (.iconst 2, 1) := by decide +kernel
theorem dL_step_290 : decode cL_step 290 = .ok (.if_icmp .ne 7, 3) := by decide +kernel
theorem dL_step_293 : decode cL_step 293 = .ok (.iconst 2, 1) := by decide +kernel
theorem dL_step_294 : decode cL_step 294 = .ok (.goto 4, 3) := by decide +kernel
theorem dL_step_297 : decode cL_step 297 = .ok (.iconst 3, 1) := by decide +kernel
theorem dL_step_298 : decode cL_step 298 = .ok (.istore 13, 2) := by decide +kernel
theorem dL_step_300 : decode cL_step 300 = .ok (.iload 13, 2) := by decide +kernel
theorem dL_step_302 : decode cL_step 302 = .ok (.iconst 3, 1) := by decide +kernel
theorem dL_step_303 : decode cL_step 303 = .ok (.if_icmp .ge 8, 3) := by decide +kernel
theorem dL_step_306 : decode cL_step 306 = .ok (.iload 13, 2) := by decide +kernel
theorem dL_step_308 : decode cL_step 308 = .ok (.goto 21, 3) := by decide +kernel
theorem dL_step_311 : decode cL_step 311 = .ok (.iload 12, 2) := by decide +kernel
theorem dL_step_313 : decode cL_step 313 = .ok (.aload_n 1, 1) := by decide +kernel
theorem dL_step_314 : decode cL_step 314 = .ok (.aload 4, 2) := by decide +kernel
theorem dL_step_316 : decode cL_step 316 = .ok (.invokestatic 24, 3) := by decide +kernel
theorem dL_step_319 : decode cL_step 319 = .ok (.iconst 1, 1) := by decide +kernel
theorem dL_step_320 : decode cL_step 320 = .ok (.if_icmp .ne 8, 3) := by decide +kernel
theorem dL_step_323 : decode cL_step 323 = .ok (.bipush 6, 2) := by decide +kernel
theorem dL_step_325 : decode cL_step 325 = .ok (.goto 4, 3) := by decide +kernel
theorem dL_step_328 : decode cL_step 328 = .ok (.iconst 2, 1) := by decide +kernel
theorem dL_step_329 : decode cL_step 329 = .ok (.istore 14, 2) := by decide +kernel
theorem dL_step_331 : decode cL_step 331 = .ok (.iload 14, 2) := by decide +kernel
theorem dL_step_333 : decode cL_step 333 = .ok (.iload 8, 2) := by decide +kernel
theorem dL_step_335 : decode cL_step 335 = .ok (.if_icmp .gt 103, 3) := by decide +kernel
theorem dL_step_338 : decode cL_step 338 = .ok (.iload 13, 2) := by decide +kernel
theorem dL_step_340 : decode cL_step 340 = .ok (.iconst 2, 1) := by decide +kernel
theorem dL_step_341 : decode cL_step 341 = .ok (.if_icmp .ne 24, 3) := by decide +kernel
theorem dL_step_344 : decode cL_step 344 = .ok (.aload_n 2, 1) := by decide +kernel
theorem dL_step_345 : decode cL_step 345 = .ok (.iload 12, 2) := by decide +kernel
theorem dL_step_347 : decode cL_step 347 = .ok (.iaload, 1) := by decide +kernel
theorem dL_step_348 : decode cL_step 348 = .ok (.sipush 1000, 3) := by decide +kernel
theorem dL_step_351 : decode cL_step 351 = .ok (.aload_n 1, 1) := by decide +kernel
theorem dL_step_352 : decode cL_step 352 = .ok (.iload 12, 2) := by decide +kernel
theorem dL_step_354 : decode cL_step 354 = .ok (.iaload, 1) := by decide +kernel
theorem dL_step_355 : decode cL_step 355 = .ok (.bipush 16, 2) := by decide +kernel
theorem dL_step_357 : decode cL_step 357 = .ok (.idiv, 1) := by decide +kernel
theorem dL_step_358 : decode cL_step 358 = .ok (.iadd, 1) := by decide +kernel
theorem dL_step_359 : decode cL_step 359 = .ok (.if_icmp .ne 6, 3) := by decide +kernel
theorem dL_step_362 : decode cL_step 362 = .ok (.goto 76, 3) := by decide +kernel
theorem dL_step_365 : decode cL_step 365 = .ok (.iload 8, 2) := by decide +kernel
theorem dL_step_367 : decode cL_step 367 = .ok (.iload 14, 2) := by decide +kernel
theorem dL_step_369 : decode cL_step 369 = .ok (.isub, 1) := by decide +kernel
theorem dL_step_370 : decode cL_step 370 = .ok (.istore 8, 2) := by decide +kernel
theorem dL_step_372 : decode cL_step 372 = .ok (.aload_n 2, 1) := by decide +kernel
theorem dL_step_373 : decode cL_step 373 = .ok (.iload 12, 2) := by decide +kernel
theorem dL_step_375 : decode cL_step 375 = .ok (.iload 13, 2) := by decide +kernel
theorem dL_step_377 : decode cL_step 377 = .ok (.iconst 2, 1) := by decide +kernel
theorem dL_step_378 : decode cL_step 378 = .ok (.if_icmp .ne 17, 3) := by decide +kernel
theorem dL_step_381 : decode cL_step 381 = .ok (.sipush 1000, 3) := by decide +kernel
theorem dL_step_384 : decode cL_step 384 = .ok (.aload_n 1, 1) := by decide +kernel
theorem dL_step_385 : decode cL_step 385 = .ok (.iload 12, 2) := by decide +kernel
theorem dL_step_387 : decode cL_step 387 = .ok (.iaload, 1) := by decide +kernel
theorem dL_step_388 : decode cL_step 388 = .ok (.bipush 16, 2) := by decide +kernel
theorem dL_step_390 : decode cL_step 390 = .ok (.idiv, 1) := by decide +kernel
theorem dL_step_391 : decode cL_step 391 = .ok (.iadd, 1) := by decide +kernel
theorem dL_step_392 : decode cL_step 392 = .ok (.goto 7, 3) := by decide +kernel
theorem dL_step_395 : decode cL_step 395 = .ok (.aload_n 1, 1) := by decide +kernel
theorem dL_step_396 : decode cL_step 396 = .ok (.iload 12, 2) := by decide +kernel
theorem dL_step_398 : decode cL_step 398 = .ok (.iaload, 1) := by decide +kernel
theorem dL_step_399 : decode cL_step 399 = .ok (.iastore, 1) := by decide +kernel
theorem dL_step_400 : decode cL_step 400 = .ok (.iload 13, 2) := by decide +kernel
theorem dL_step_402 : decode cL_step 402 = .ok (.iconst 2, 1) := by decide +kernel
theorem dL_step_403 : decode cL_step 403 = .ok (.if_icmp .eq 14, 3) := by decide +kernel
theorem dL_step_406 : decode cL_step 406 = .ok (.aload_n 1, 1) := by decide +kernel
theorem dL_step_407 : decode cL_step 407 = .ok (.iload 12, 2) := by decide +kernel
theorem dL_step_409 : decode cL_step 409 = .ok (.iaload, 1) := by decide +kernel
theorem dL_step_410 : decode cL_step 410 = .ok (.aload 6, 2) := by decide +kernel
theorem dL_step_412 : decode cL_step 412 = .ok (.iconst 0, 1) := by decide +kernel
theorem dL_step_413 : decode cL_step 413 = .ok (.invokestatic 20, 3) := by decide +kernel
theorem dL_step_416 : decode cL_step 416 = .ok (.pop, 1) := by decide +kernel
theorem dL_step_417 : decode cL_step 417 = .ok (.iload 12, 2) := by decide +kernel
theorem dL_step_419 : decode cL_step 419 = .ok (.aload_n 1, 1) := by decide +kernel
theorem dL_step_420 : decode cL_step 420 = .ok (.aload_n 2, 1) := by decide +kernel
theorem dL_step_421 : decode cL_step 421 = .ok (.aload_n 3, 1) := by decide +kernel
theorem dL_step_422 : decode cL_step 422 = .ok (.aload 7, 2) := by decide +kernel
theorem dL_step_424 : decode cL_step 424 = .ok (.invokestatic 10, 3) := by decide +kernel
theorem dL_step_427 : decode cL_step 427 = .ok (.aload 7, 2) := by decide +kernel
theorem dL_step_429 : decode cL_step 429 = .ok (.iconst 4, 1) := by decide +kernel
theorem dL_step_430 : decode cL_step 430 = .ok (.iload 13, 2) := by decide +kernel
theorem dL_step_432 : decode cL_step 432 = .ok (.iadd, 1) := by decide +kernel
theorem dL_step_433 : decode cL_step 433 = .ok (.dup2, 1) := by decide +kernel
theorem dL_step_434 : decode cL_step 434 = .ok (.iaload, 1) := by decide +kernel
theorem dL_step_435 : decode cL_step 435 = .ok (.iconst 1, 1) := by decide +kernel
theorem dL_step_436 : decode cL_step 436 = .ok (.iadd, 1) := by decide +kernel
theorem dL_step_437 : decode cL_step 437 = .ok (.iastore, 1) := by decide +kernel
theorem dL_step_438 : decode cL_step 438 = .ok (.iinc 11 1, 3) := by decide +kernel
theorem dL_step_441 : decode cL_step 441 = .ok (.goto (-192), 3) := by decide +kernel
theorem dL_step_444 : decode cL_step 444 = .ok (.aload 7, 2) := by decide +kernel
theorem dL_step_446 : decode cL_step 446 = .ok (.iconst 0, 1) := by decide +kernel
theorem dL_step_447 : decode cL_step 447 = .ok (.dup2, 1) := by decide +kernel
theorem dL_step_448 : decode cL_step 448 = .ok (.iaload, 1) := by decide +kernel
theorem dL_step_449 : decode cL_step 449 = .ok (.iconst 1, 1) := by decide +kernel
theorem dL_step_450 : decode cL_step 450 = .ok (.iadd, 1) := by decide +kernel
theorem dL_step_451 : decode cL_step 451 = .ok (.iastore, 1) := by decide +kernel
theorem dL_step_452 : decode cL_step 452 = .ok (.iconst 0, 1) := by decide +kernel
theorem dL_step_453 : decode cL_step 453 = .ok (.istore 11, 2) := by decide +kernel
theorem dL_step_455 : decode cL_step 455 = .ok (.iload 11, 2) := by decide +kernel
theorem dL_step_457 : decode cL_step 457 = .ok (.bipush 48, 2) := by decide +kernel
theorem dL_step_459 : decode cL_step 459 = .ok (.if_icmp .ge 25, 3) := by decide +kernel
theorem dL_step_462 : decode cL_step 462 = .ok (.aload 4, 2) := by decide +kernel
theorem dL_step_464 : decode cL_step 464 = .ok (.iload 11, 2) := by decide +kernel
theorem dL_step_466 : decode cL_step 466 = .ok (.aload 4, 2) := by decide +kernel
theorem dL_step_468 : decode cL_step 468 = .ok (.iload 11, 2) := by decide +kernel
theorem dL_step_470 : decode cL_step 470 = .ok (.iaload, 1) := by decide +kernel
theorem dL_step_471 : decode cL_step 471 = .ok (.sipush 128, 3) := by decide +kernel
theorem dL_step_474 : decode cL_step 474 = .ok (.irem, 1) := by decide +kernel
theorem dL_step_475 : decode cL_step 475 = .ok (.iconst 2, 1) := by decide +kernel
theorem dL_step_476 : decode cL_step 476 = .ok (.imul, 1) := by decide +kernel
theorem dL_step_477 : decode cL_step 477 = .ok (.iastore, 1) := by decide +kernel
theorem dL_step_478 : decode cL_step 478 = .ok (.iinc 11 1, 3) := by decide +kernel
theorem dL_step_481 : decode cL_step 481 = .ok (.goto (-26), 3) := by decide +kernel
theorem dL_step_484 : decode cL_step 484 = .ok (.iload_n 0, 1) := by decide +kernel
theorem dL_step_485 : decode cL_step 485 = .ok (.iload 8, 2) := by decide +kernel
theorem dL_step_487 : decode cL_step 487 = .ok (.isub, 1) := by decide +kernel
theorem dL_step_488 : decode cL_step 488 = .ok (.ireturn, 1) := by decide +kernel
theorem dL_refused_0 : decode cL_refused 0 = .ok (.iload_n 1, 1) := by decide +kernel
theorem dL_refused_1 : decode cL_refused 1 = .ok (.ifCond .ne 11, 3) := by decide +kernel
theorem dL_refused_4 : decode cL_refused 4 = .ok (.aload_n 0, 1) := by decide +kernel
theorem dL_refused_5 : decode cL_refused 5 = .ok (.iload_n 2, 1) := by decide +kernel
theorem dL_refused_6 : decode cL_refused 6 = .ok (.invokevirtual 28, 3) := by decide +kernel
theorem dL_refused_9 : decode cL_refused 9 = .ok (.goto 27, 3) := by decide +kernel
theorem dL_refused_12 : decode cL_refused 12 = .ok (.iload_n 1, 1) := by decide +kernel
theorem dL_refused_13 : decode cL_refused 13 = .ok (.iconst 1, 1) := by decide +kernel
theorem dL_refused_14 : decode cL_refused 14 = .ok (.if_icmp .ne 12, 3) := by decide +kernel
theorem dL_refused_17 : decode cL_refused 17 = .ok (.aload_n 0, 1) := by decide +kernel
theorem dL_refused_18 : decode cL_refused 18 = .ok (.iload_n 2, 1) := by decide +kernel
theorem dL_refused_19 : decode cL_refused 19 = .ok (.iload_n 3, 1) := by decide +kernel
theorem dL_refused_20 : decode cL_refused 20 = .ok (.invokevirtual 34, 3) := by decide +kernel
theorem dL_refused_23 : decode cL_refused 23 = .ok (.goto 13, 3) := by decide +kernel
theorem dL_refused_26 : decode cL_refused 26 = .ok (.aload_n 0, 1) := by decide +kernel
theorem dL_refused_27 : decode cL_refused 27 = .ok (.iload_n 2, 1) := by decide +kernel
theorem dL_refused_28 : decode cL_refused 28 = .ok (.iload_n 3, 1) := by decide +kernel
theorem dL_refused_29 : decode cL_refused 29 = .ok (.iconst 1, 1) := by decide +kernel
theorem dL_refused_30 : decode cL_refused 30 = .ok (.iconst 1, 1) := by decide +kernel
theorem dL_refused_31 : decode cL_refused 31 = .ok (.iload_n 2, 1) := by decide +kernel
theorem dL_refused_32 : decode cL_refused 32 = .ok (.iload_n 3, 1) := by decide +kernel
theorem dL_refused_33 : decode cL_refused 33 = .ok (.invokevirtual 38, 3) := by decide +kernel
theorem dL_refused_36 : decode cL_refused 36 = .ok (.iconst 0, 1) := by decide +kernel
theorem dL_refused_37 : decode cL_refused 37 = .ok (.imul, 1) := by decide +kernel
theorem dL_refused_38 : decode cL_refused 38 = .ok (.ireturn, 1) := by decide +kernel
theorem dL_refused_39 : decode cL_refused 39 = .ok (.astore 4, 2) := by decide +kernel
theorem dL_refused_41 : decode cL_refused 41 = .ok (.iconst 1, 1) := by decide +kernel
theorem dL_refused_42 : decode cL_refused 42 = .ok (.ireturn, 1) := by decide +kernel
theorem dL_refused_43 : decode cL_refused 43 = .ok (.astore 4, 2) := by decide +kernel
theorem dL_refused_45 : decode cL_refused 45 = .ok (.iconst 2, 1) := by decide +kernel
theorem dL_refused_46 : decode cL_refused 46 = .ok (.ireturn, 1) := by decide +kernel
theorem dL_same_0 : decode cL_same 0 = .ok (.lconst 0, 1) := by decide +kernel
theorem dL_same_1 : decode cL_same 1 = .ok (.lstore 7, 2) := by decide +kernel
theorem dL_same_3 : decode cL_same 3 = .ok (.iconst 0, 1) := by decide +kernel
theorem dL_same_4 : decode cL_same 4 = .ok (.istore 9, 2) := by decide +kernel
theorem dL_same_6 : decode cL_same 6 = .ok (.iconst 0, 1) := by decide +kernel
theorem dL_same_7 : decode cL_same 7 = .ok (.istore 10, 2) := by decide +kernel
theorem dL_same_9 : decode cL_same 9 = .ok (.iconst 0, 1) := by decide +kernel
theorem dL_same_10 : decode cL_same 10 = .ok (.istore 11, 2) := by decide +kernel
theorem dL_same_12 : decode cL_same 12 = .ok (.iload 11, 2) := by decide +kernel
theorem dL_same_14 : decode cL_same 14 = .ok (.bipush 8, 2) := by decide +kernel
theorem dL_same_16 : decode cL_same 16 = .ok (.if_icmp .ge 17, 3) := by decide +kernel
theorem dL_same_19 : decode cL_same 19 = .ok (.aload 5, 2) := by decide +kernel
theorem dL_same_21 : decode cL_same 21 = .ok (.iload 11, 2) := by decide +kernel
theorem dL_same_23 : decode cL_same 23 = .ok (.iaload, 1) := by decide +kernel
theorem dL_same_24 : decode cL_same 24 = .ok (.ifCond .le 9, 3) := by decide +kernel
theorem dL_same_27 : decode cL_same 27 = .ok (.iinc 11 1, 3) := by decide +kernel
theorem dL_same_30 : decode cL_same 30 = .ok (.goto (-18), 3) := by decide +kernel
theorem dL_same_33 : decode cL_same 33 = .ok (.iconst 0, 1) := by decide +kernel
theorem dL_same_34 : decode cL_same 34 = .ok (.istore 12, 2) := by decide +kernel
theorem dL_same_36 : decode cL_same 36 = .ok (.iload 12, 2) := by decide +kernel
theorem dL_same_38 : decode cL_same 38 = .ok (.bipush 48, 2) := by decide +kernel
theorem dL_same_40 : decode cL_same 40 = .ok (.if_icmp .ge 152, 3) := by decide +kernel
theorem dL_same_43 : decode cL_same 43 = .ok (.lload 7, 2) := by decide +kernel
theorem dL_same_45 : decode cL_same 45 = .ok (.aload_n 3, 1) := by decide +kernel
theorem dL_same_46 : decode cL_same 46 = .ok (.iload 12, 2) := by decide +kernel
theorem dL_same_48 : decode cL_same 48 = .ok (.iaload, 1) := by decide +kernel
theorem dL_same_49 : decode cL_same 49 = .ok (.ifCond .ge 7, 3) := by decide +kernel
theorem dL_same_52 : decode cL_same 52 = .ok (.lconst 0, 1) := by decide +kernel
theorem dL_same_53 : decode cL_same 53 = .ok (.goto 7, 3) := by decide +kernel
theorem dL_same_56 : decode cL_same 56 = .ok (.lconst 1, 1) := by decide +kernel
theorem dL_same_57 : decode cL_same 57 = .ok (.iload 12, 2) := by decide +kernel
theorem dL_same_59 : decode cL_same 59 = .ok (.lshl, 1) := by decide +kernel
theorem dL_same_60 : decode cL_same 60 = .ok (.lor, 1) := by decide +kernel
theorem dL_same_61 : decode cL_same 61 = .ok (.lstore 7, 2) := by decide +kernel
theorem dL_same_63 : decode cL_same 63 = .ok (.iload 9, 2) := by decide +kernel
theorem dL_same_65 : decode cL_same 65 = .ok (.aload_n 2, 1) := by decide +kernel
theorem dL_same_66 : decode cL_same 66 = .ok (.iload 12, 2) := by decide +kernel
theorem dL_same_68 : decode cL_same 68 = .ok (.iaload, 1) := by decide +kernel
theorem dL_same_69 : decode cL_same 69 = .ok (.sipush 1000, 3) := by decide +kernel
theorem dL_same_72 : decode cL_same 72 = .ok (.idiv, 1) := by decide +kernel
theorem dL_same_73 : decode cL_same 73 = .ok (.iadd, 1) := by decide +kernel
theorem dL_same_74 : decode cL_same 74 = .ok (.istore 9, 2) := by decide +kernel
theorem dL_same_76 : decode cL_same 76 = .ok (.iload 10, 2) := by decide +kernel
theorem dL_same_78 : decode cL_same 78 = .ok (.aload_n 1, 1) := by decide +kernel
theorem dL_same_79 : decode cL_same 79 = .ok (.iload 12, 2) := by decide +kernel
theorem dL_same_81 : decode cL_same 81 = .ok (.iaload, 1) := by decide +kernel
theorem dL_same_82 : decode cL_same 82 = .ok (.bipush 64, 2) := by decide +kernel
theorem dL_same_84 : decode cL_same 84 = .ok (.if_icmp .ge 7, 3) := by decide +kernel
theorem dL_same_87 : decode cL_same 87 = .ok (.iconst 2, 1) := by decide +kernel
theorem dL_same_88 : decode cL_same 88 = .ok (.goto 5, 3) := by decide +kernel
theorem dL_same_91 : decode cL_same 91 = .ok (.bipush 6, 2) := by decide +kernel
theorem dL_same_93 : decode cL_same 93 = .ok (.iadd, 1) := by decide +kernel
theorem dL_same_94 : decode cL_same 94 = .ok (.istore 10, 2) := by decide +kernel
theorem dL_same_96 : decode cL_same 96 = .ok (.aload_n 0, 1) := by decide +kernel
theorem dL_same_97 : decode cL_same 97 = .ok (.iload 12, 2) := by decide +kernel
theorem dL_same_99 : decode cL_same 99 = .ok (.bipush 8, 2) := by decide +kernel
theorem dL_same_101 : decode cL_same 101 = .ok (.irem, 1) := by decide +kernel
theorem dL_same_102 : decode cL_same 102 = .ok (.iload 12, 2) := by decide +kernel
theorem dL_same_104 : decode cL_same 104 = .ok (.bipush 8, 2) := by decide +kernel
theorem dL_same_106 : decode cL_same 106 = .ok (.idiv, 1) := by decide +kernel
theorem dL_same_107 : decode cL_same 107 = .ok (.invokevirtual 34, 3) := by decide +kernel
theorem dL_same_110 : decode cL_same 110 = .ok (.aload_n 1, 1) := by decide +kernel
theorem dL_same_111 : decode cL_same 111 = .ok (.iload 12, 2) := by decide +kernel
theorem dL_same_113 : decode cL_same 113 = .ok (.iaload, 1) := by decide +kernel
theorem dL_same_114 : decode cL_same 114 = .ok (.if_icmp .ne 70, 3) := by decide +kernel
theorem dL_same_117 : decode cL_same 117 = .ok (.aload_n 0, 1) := by decide +kernel
theorem dL_same_118 : decode cL_same 118 = .ok (.iload 12, 2) := by decide +kernel
theorem dL_same_120 : decode cL_same 120 = .ok (.bipush 8, 2) := by decide +kernel
theorem dL_same_122 : decode cL_same 122 = .ok (.irem, 1) := by decide +kernel
theorem dL_same_123 : decode cL_same 123 = .ok (.iload 12, 2) := by decide +kernel
theorem dL_same_125 : decode cL_same 125 = .ok (.bipush 8, 2) := by decide +kernel
theorem dL_same_127 : decode cL_same 127 = .ok (.idiv, 1) := by decide +kernel
theorem dL_same_128 : decode cL_same 128 = .ok (.invokevirtual 46, 3) := by decide +kernel
theorem dL_same_131 : decode cL_same 131 = .ok (.aload_n 2, 1) := by decide +kernel
theorem dL_same_132 : decode cL_same 132 = .ok (.iload 12, 2) := by decide +kernel
theorem dL_same_134 : decode cL_same 134 = .ok (.iaload, 1) := by decide +kernel
theorem dL_same_135 : decode cL_same 135 = .ok (.if_icmp .ne 49, 3) := by decide +kernel
theorem dL_same_138 : decode cL_same 138 = .ok (.aload_n 0, 1) := by decide +kernel
theorem dL_same_139 : decode cL_same 139 = .ok (.iload 12, 2) := by decide +kernel
theorem dL_same_141 : decode cL_same 141 = .ok (.bipush 8, 2) := by decide +kernel
theorem dL_same_143 : decode cL_same 143 = .ok (.irem, 1) := by decide +kernel
theorem dL_same_144 : decode cL_same 144 = .ok (.iload 12, 2) := by decide +kernel
theorem dL_same_146 : decode cL_same 146 = .ok (.bipush 8, 2) := by decide +kernel
theorem dL_same_148 : decode cL_same 148 = .ok (.idiv, 1) := by decide +kernel
theorem dL_same_149 : decode cL_same 149 = .ok (.invokevirtual 49, 3) := by decide +kernel
theorem dL_same_152 : decode cL_same 152 = .ok (.aload_n 3, 1) := by decide +kernel
theorem dL_same_153 : decode cL_same 153 = .ok (.iload 12, 2) := by decide +kernel
theorem dL_same_155 : decode cL_same 155 = .ok (.iaload, 1) := by decide +kernel
theorem dL_same_156 : decode cL_same 156 = .ok (.if_icmp .ne 28, 3) := by decide +kernel
theorem dL_same_159 : decode cL_same 159 = .ok (.aload_n 0, 1) := by decide +kernel
theorem dL_same_160 : decode cL_same 160 = .ok (.iload 12, 2) := by decide +kernel
theorem dL_same_162 : decode cL_same 162 = .ok (.bipush 8, 2) := by decide +kernel
theorem dL_same_164 : decode cL_same 164 = .ok (.irem, 1) := by decide +kernel
theorem dL_same_165 : decode cL_same 165 = .ok (.iload 12, 2) := by decide +kernel
theorem dL_same_167 : decode cL_same 167 = .ok (.bipush 8, 2) := by decide +kernel
theorem dL_same_169 : decode cL_same 169 = .ok (.idiv, 1) := by decide +kernel
theorem dL_same_170 : decode cL_same 170 = .ok (.invokevirtual 52, 3) := by decide +kernel
theorem dL_same_173 : decode cL_same 173 = .ok (.iload 12, 2) := by decide +kernel
theorem dL_same_175 : decode cL_same 175 = .ok (.aload_n 1, 1) := by decide +kernel
theorem dL_same_176 : decode cL_same 176 = .ok (.aload 4, 2) := by decide +kernel
theorem dL_same_178 : decode cL_same 178 = .ok (.invokestatic 24, 3) := by decide +kernel
theorem dL_same_181 : decode cL_same 181 = .ok (.if_icmp .eq 5, 3) := by decide +kernel
theorem dL_same_184 : decode cL_same 184 = .ok (.iconst 0, 1) := by decide +kernel
theorem dL_same_185 : decode cL_same 185 = .ok (.ireturn, 1) := by decide +kernel
theorem dL_same_186 : decode cL_same 186 = .ok (.iinc 12 1, 3) := by decide +kernel
theorem dL_same_189 : decode cL_same 189 = .ok (.goto (-153), 3) := by decide +kernel
theorem dL_same_192 : decode cL_same 192 = .ok (.iconst 0, 1) := by decide +kernel
theorem dL_same_193 : decode cL_same 193 = .ok (.istore 12, 2) := by decide +kernel
theorem dL_same_195 : decode cL_same 195 = .ok (.iload 12, 2) := by decide +kernel
theorem dL_same_197 : decode cL_same 197 = .ok (.iload 11, 2) := by decide +kernel
theorem dL_same_199 : decode cL_same 199 = .ok (.if_icmp .ge 27, 3) := by decide +kernel
theorem dL_same_202 : decode cL_same 202 = .ok (.aload_n 0, 1) := by decide +kernel
theorem dL_same_203 : decode cL_same 203 = .ok (.iload 12, 2) := by decide +kernel
theorem dL_same_205 : decode cL_same 205 = .ok (.invokevirtual 28, 3) := by decide +kernel
theorem dL_same_208 : decode cL_same 208 = .ok (.aload 5, 2) := by decide +kernel
theorem dL_same_210 : decode cL_same 210 = .ok (.iload 12, 2) := by decide +kernel
theorem dL_same_212 : decode cL_same 212 = .ok (.iaload, 1) := by decide +kernel
theorem dL_same_213 : decode cL_same 213 = .ok (.iconst 1, 1) := by decide +kernel
theorem dL_same_214 : decode cL_same 214 = .ok (.isub, 1) := by decide +kernel
theorem dL_same_215 : decode cL_same 215 = .ok (.if_icmp .eq 5, 3) := by decide +kernel
theorem dL_same_218 : decode cL_same 218 = .ok (.iconst 0, 1) := by decide +kernel
theorem dL_same_219 : decode cL_same 219 = .ok (.ireturn, 1) := by decide +kernel
theorem dL_same_220 : decode cL_same 220 = .ok (.iinc 12 1, 3) := by decide +kernel
theorem dL_same_223 : decode cL_same 223 = .ok (.goto (-28), 3) := by decide +kernel
theorem dL_same_226 : decode cL_same 226 = .ok (.iconst 0, 1) := by decide +kernel
theorem dL_same_227 : decode cL_same 227 = .ok (.istore 12, 2) := by decide +kernel
theorem dL_same_229 : decode cL_same 229 = .ok (.iload 12, 2) := by decide +kernel
theorem dL_same_231 : decode cL_same 231 = .ok (.iconst 4, 1) := by decide +kernel
theorem dL_same_232 : decode cL_same 232 = .ok (.if_icmp .ge 27, 3) := by decide +kernel
theorem dL_same_235 : decode cL_same 235 = .ok (.aload_n 0, 1) := by decide +kernel
theorem dL_same_236 : decode cL_same 236 = .ok (.iload 12, 2) := by decide +kernel
theorem dL_same_238 : decode cL_same 238 = .ok (.invokevirtual 54, 3) := by decide +kernel
theorem dL_same_241 : decode cL_same 241 = .ok (.aload 6, 2) := by decide +kernel
theorem dL_same_243 : decode cL_same 243 = .ok (.iconst 4, 1) := by decide +kernel
theorem dL_same_244 : decode cL_same 244 = .ok (.iload 12, 2) := by decide +kernel
theorem dL_same_246 : decode cL_same 246 = .ok (.iadd, 1) := by decide +kernel
theorem dL_same_247 : decode cL_same 247 = .ok (.iaload, 1) := by decide +kernel
theorem dL_same_248 : decode cL_same 248 = .ok (.if_icmp .eq 5, 3) := by decide +kernel
theorem dL_same_251 : decode cL_same 251 = .ok (.iconst 0, 1) := by decide +kernel
theorem dL_same_252 : decode cL_same 252 = .ok (.ireturn, 1) := by decide +kernel
theorem dL_same_253 : decode cL_same 253 = .ok (.iinc 12 1, 3) := by decide +kernel
theorem dL_same_256 : decode cL_same 256 = .ok (.goto (-27), 3) := by decide +kernel
theorem dL_same_259 : decode cL_same 259 = .ok (.aload_n 0, 1) := by decide +kernel
theorem dL_same_260 : decode cL_same 260 = .ok (.invokevirtual 57, 3) := by decide +kernel
theorem dL_same_263 : decode cL_same 263 = .ok (.lload 7, 2) := by decide +kernel
theorem dL_same_265 : decode cL_same 265 = .ok (.lcmp, 1) := by decide +kernel
theorem dL_same_266 : decode cL_same 266 = .ok (.ifCond .ne 79, 3) := by decide +kernel
theorem dL_same_269 : decode cL_same 269 = .ok (.aload_n 0, 1) := by decide +kernel
theorem dL_same_270 : decode cL_same 270 = .ok (.invokevirtual 61, 3) := by decide +kernel
theorem dL_same_273 : decode cL_same 273 = .ok (.iload 9, 2) := by decide +kernel
theorem dL_same_275 : decode cL_same 275 = .ok (.if_icmp .ne 70, 3) := by decide +kernel
theorem dL_same_278 : decode cL_same 278 = .ok (.aload_n 0, 1) := by decide +kernel
theorem dL_same_279 : decode cL_same 279 = .ok (.invokevirtual 65, 3) := by decide +kernel
theorem dL_same_282 : decode cL_same 282 = .ok (.iload 10, 2) := by decide +kernel
theorem dL_same_284 : decode cL_same 284 = .ok (.if_icmp .ne 61, 3) := by decide +kernel
theorem dL_same_287 : decode cL_same 287 = .ok (.aload_n 0, 1) := by decide +kernel
theorem dL_same_288 : decode cL_same 288 = .ok (.invokevirtual 68, 3) := by decide +kernel
theorem dL_same_291 : decode cL_same 291 = .ok (.iload 11, 2) := by decide +kernel
theorem dL_same_293 : decode cL_same 293 = .ok (.if_icmp .ne 52, 3) := by decide +kernel
theorem dL_same_296 : decode cL_same 296 = .ok (.aload_n 0, 1) := by decide +kernel
theorem dL_same_297 : decode cL_same 297 = .ok (.iconst 0, 1) := by decide +kernel
theorem dL_same_298 : decode cL_same 298 = .ok (.iload 11, 2) := by decide +kernel
theorem dL_same_300 : decode cL_same 300 = .ok (.iconst 0, 1) := by decide +kernel
theorem dL_same_301 : decode cL_same 301 = .ok (.invokestatic 71, 3) := by decide +kernel
theorem dL_same_304 : decode cL_same 304 = .ok (.iconst 1, 1) := by decide +kernel
theorem dL_same_305 : decode cL_same 305 = .ok (.if_icmp .ne 40, 3) := by decide +kernel
theorem dL_same_308 : decode cL_same 308 = .ok (.aload_n 0, 1) := by decide +kernel
theorem dL_same_309 : decode cL_same 309 = .ok (.invokevirtual 75, 3) := by decide +kernel
theorem dL_same_312 : decode cL_same 312 = .ok (.aload 6, 2) := by decide +kernel
theorem dL_same_314 : decode cL_same 314 = .ok (.iconst 2, 1) := by decide +kernel
theorem dL_same_315 : decode cL_same 315 = .ok (.iaload, 1) := by decide +kernel
theorem dL_same_316 : decode cL_same 316 = .ok (.if_icmp .ne 29, 3) := by decide +kernel
theorem dL_same_319 : decode cL_same 319 = .ok (.aload_n 0, 1) := by decide +kernel
theorem dL_same_320 : decode cL_same 320 = .ok (.invokevirtual 78, 3) := by decide +kernel
theorem dL_same_323 : decode cL_same 323 = .ok (.aload 6, 2) := by decide +kernel
theorem dL_same_325 : decode cL_same 325 = .ok (.iconst 0, 1) := by decide +kernel
theorem dL_same_326 : decode cL_same 326 = .ok (.iaload, 1) := by decide +kernel
theorem dL_same_327 : decode cL_same 327 = .ok (.if_icmp .ne 18, 3) := by decide +kernel
theorem dL_same_330 : decode cL_same 330 = .ok (.aload_n 0, 1) := by decide +kernel
theorem dL_same_331 : decode cL_same 331 = .ok (.invokevirtual 81, 3) := by decide +kernel
theorem dL_same_334 : decode cL_same 334 = .ok (.aload 6, 2) := by decide +kernel
theorem dL_same_336 : decode cL_same 336 = .ok (.iconst 3, 1) := by decide +kernel
theorem dL_same_337 : decode cL_same 337 = .ok (.iaload, 1) := by decide +kernel
theorem dL_same_338 : decode cL_same 338 = .ok (.if_icmp .ne 7, 3) := by decide +kernel
theorem dL_same_341 : decode cL_same 341 = .ok (.iconst 1, 1) := by decide +kernel
theorem dL_same_342 : decode cL_same 342 = .ok (.goto 4, 3) := by decide +kernel
theorem dL_same_345 : decode cL_same 345 = .ok (.iconst 0, 1) := by decide +kernel
theorem dL_same_346 : decode cL_same 346 = .ok (.ireturn, 1) := by decide +kernel
