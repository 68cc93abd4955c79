theorem dX10_init_0 : decode cX10_init 0 = .ok (.aload_n 0, 1) := by decide +kernel
theorem dX10_init_1 : decode cX10_init 1 = .ok (.invokespecial 1, 3) := by decide +kernel
theorem dX10_init_4 : decode cX10_init 4 = .ok (.aload_n 0, 1) := by decide +kernel
theorem dX10_init_5 : decode cX10_init 5 = .ok (.sipush 1558, 3) := by decide +kernel
theorem dX10_init_8 : decode cX10_init 8 = .ok (.newarray .int, 2) := by decide +kernel
theorem dX10_init_10 : decode cX10_init 10 = .ok (.putfield 7, 3) := by decide +kernel
theorem dX10_init_13 : decode cX10_init 13 = .ok (.aload_n 0, 1) := by decide +kernel
theorem dX10_init_14 : decode cX10_init 14 = .ok (.sipush 180, 3) := by decide +kernel
theorem dX10_init_17 : decode cX10_init 17 = .ok (.newarray .int, 2) := by decide +kernel
theorem dX10_init_19 : decode cX10_init 19 = .ok (.putfield 13, 3) := by decide +kernel
theorem dX10_init_22 : decode cX10_init 22 = .ok (.aload_n 0, 1) := by decide +kernel
theorem dX10_init_23 : decode cX10_init 23 = .ok (.iconst (-1), 1) := by decide +kernel
theorem dX10_init_24 : decode cX10_init 24 = .ok (.putfield 16, 3) := by decide +kernel
theorem dX10_init_27 : decode cX10_init 27 = .ok (.aload_n 0, 1) := by decide +kernel
theorem dX10_init_28 : decode cX10_init 28 = .ok (.bipush 31, 2) := by decide +kernel
theorem dX10_init_30 : decode cX10_init 30 = .ok (.newarray .int, 2) := by decide +kernel
theorem dX10_init_32 : decode cX10_init 32 = .ok (.putfield 20, 3) := by decide +kernel
theorem dX10_init_35 : decode cX10_init 35 = .ok (.aload_n 0, 1) := by decide +kernel
theorem dX10_init_36 : decode cX10_init 36 = .ok (.bipush 62, 2) := by decide +kernel
theorem dX10_init_38 : decode cX10_init 38 = .ok (.newarray .int, 2) := by decide +kernel
theorem dX10_init_40 : decode cX10_init 40 = .ok (.putfield 23, 3) := by decide +kernel
theorem dX10_init_43 : decode cX10_init 43 = .ok (.aload_n 0, 1) := by decide +kernel
theorem dX10_init_44 : decode cX10_init 44 = .ok (.iconst 2, 1) := by decide +kernel
theorem dX10_init_45 : decode cX10_init 45 = .ok (.newarray .int, 2) := by decide +kernel
theorem dX10_init_47 : decode cX10_init 47 = .ok (.putfield 26, 3) := by decide +kernel
theorem dX10_init_50 : decode cX10_init 50 = .ok (.aload_n 0, 1) := by decide +kernel
theorem dX10_init_51 : decode cX10_init 51 = .ok (.iconst 2, 1) := by decide +kernel
theorem dX10_init_52 : decode cX10_init 52 = .ok (.newarray .int, 2) := by decide +kernel
theorem dX10_init_54 : decode cX10_init 54 = .ok (.putfield 29, 3) := by decide +kernel
theorem dX10_init_57 : decode cX10_init 57 = .ok (.aload_n 0, 1) := by decide +kernel
theorem dX10_init_58 : decode cX10_init 58 = .ok (.bipush 20, 2) := by decide +kernel
theorem dX10_init_60 : decode cX10_init 60 = .ok (.newarray .int, 2) := by decide +kernel
theorem dX10_init_62 : decode cX10_init 62 = .ok (.putfield 32, 3) := by decide +kernel
theorem dX10_init_65 : decode cX10_init 65 = .ok (.aload_n 0, 1) := by decide +kernel
theorem dX10_init_66 : decode cX10_init 66 = .ok (.bipush 20, 2) := by decide +kernel
theorem dX10_init_68 : decode cX10_init 68 = .ok (.newarray .int, 2) := by decide +kernel
theorem dX10_init_70 : decode cX10_init 70 = .ok (.putfield 35, 3) := by decide +kernel
theorem dX10_init_73 : decode cX10_init 73 = .ok (.aload_n 0, 1) := by decide +kernel
theorem dX10_init_74 : decode cX10_init 74 = .ok (.bipush 20, 2) := by decide +kernel
theorem dX10_init_76 : decode cX10_init 76 = .ok (.newarray .int, 2) := by decide +kernel
theorem dX10_init_78 : decode cX10_init 78 = .ok (.putfield 38, 3) := by decide +kernel
theorem dX10_init_81 : decode cX10_init 81 = .ok (.aload_n 0, 1) := by decide +kernel
theorem dX10_init_82 : decode cX10_init 82 = .ok (.bipush 96, 2) := by decide +kernel
theorem dX10_init_84 : decode cX10_init 84 = .ok (.newarray .int, 2) := by decide +kernel
theorem dX10_init_86 : decode cX10_init 86 = .ok (.putfield 41, 3) := by decide +kernel
theorem dX10_init_89 : decode cX10_init 89 = .ok (.aload_n 0, 1) := by decide +kernel
theorem dX10_init_90 : decode cX10_init 90 = .ok (.bipush 82, 2) := by decide +kernel
theorem dX10_init_92 : decode cX10_init 92 = .ok (.newarray .int, 2) := by decide +kernel
theorem dX10_init_94 : decode cX10_init 94 = .ok (.putfield 44, 3) := by decide +kernel
theorem dX10_init_97 : decode cX10_init 97 = .ok (.aload_n 0, 1) := by decide +kernel
theorem dX10_init_98 : decode cX10_init 98 = .ok (.getfield 7, 3) := by decide +kernel
theorem dX10_init_101 : decode cX10_init 101 = .ok (.iconst 0, 1) := by decide +kernel
theorem dX10_init_102 : decode cX10_init 102 = .ok (.iconst 1, 1) := by decide +kernel
theorem dX10_init_103 : decode cX10_init 103 = .ok (.iastore, 1) := by decide +kernel
theorem dX10_init_104 : decode cX10_init 104 = .ok (.aload_n 0, 1) := by decide +kernel
theorem dX10_init_105 : decode cX10_init 105 = .ok (.getfield 7, 3) := by decide +kernel
theorem dX10_init_108 : decode cX10_init 108 = .ok (.iconst 1, 1) := by decide +kernel
theorem dX10_init_109 : decode cX10_init 109 = .ok (.iconst 1, 1) := by decide +kernel
theorem dX10_init_110 : decode cX10_init 110 = .ok (.iastore, 1) := by decide +kernel
theorem dX10_init_111 : decode cX10_init 111 = .ok (.return_, 1) := by decide +kernel
theorem dX10_in_0 : decode cX10_in 0 = .ok (.lload_n 0, 1) := by decide +kernel
theorem dX10_in_1 : decode cX10_in 1 = .ok (.lload_n 2, 1) := by decide +kernel
theorem dX10_in_2 : decode cX10_in 2 = .ok (.lcmp, 1) := by decide +kernel
theorem dX10_in_3 : decode cX10_in 3 = .ok (.ifCond .lt 14, 3) := by decide +kernel
theorem dX10_in_6 : decode cX10_in 6 = .ok (.lload_n 0, 1) := by decide +kernel
theorem dX10_in_7 : decode cX10_in 7 = .ok (.lload 4, 2) := by decide +kernel
theorem dX10_in_9 : decode cX10_in 9 = .ok (.lcmp, 1) := by decide +kernel
theorem dX10_in_10 : decode cX10_in 10 = .ok (.ifCond .gt 7, 3) := by decide +kernel
theorem dX10_in_13 : decode cX10_in 13 = .ok (.iconst 1, 1) := by decide +kernel
theorem dX10_in_14 : decode cX10_in 14 = .ok (.goto 4, 3) := by decide +kernel
theorem dX10_in_17 : decode cX10_in 17 = .ok (.iconst 0, 1) := by decide +kernel
theorem dX10_in_18 : decode cX10_in 18 = .ok (.ireturn, 1) := by decide +kernel
theorem dX10_copyRow_0 : decode cX10_copyRow 0 = .ok (.iconst 0, 1) := by decide +kernel
theorem dX10_copyRow_1 : decode cX10_copyRow 1 = .ok (.istore_n 3, 1) := by decide +kernel
theorem dX10_copyRow_2 : decode cX10_copyRow 2 = .ok (.iload_n 3, 1) := by decide +kernel
theorem dX10_copyRow_3 : decode cX10_copyRow 3 = .ok (.bipush 82, 2) := by decide +kernel
theorem dX10_copyRow_5 : decode cX10_copyRow 5 = .ok (.if_icmp .ge 25, 3) := by decide +kernel
theorem dX10_copyRow_8 : decode cX10_copyRow 8 = .ok (.aload_n 0, 1) := by decide +kernel
theorem dX10_copyRow_9 : decode cX10_copyRow 9 = .ok (.getfield 7, 3) := by decide +kernel
theorem dX10_copyRow_12 : decode cX10_copyRow 12 = .ok (.iload_n 2, 1) := by decide +kernel
theorem dX10_copyRow_13 : decode cX10_copyRow 13 = .ok (.iload_n 3, 1) := by decide +kernel
theorem dX10_copyRow_14 : decode cX10_copyRow 14 = .ok (.iadd, 1) := by decide +kernel
theorem dX10_copyRow_15 : decode cX10_copyRow 15 = .ok (.aload_n 0, 1) := by decide +kernel
theorem dX10_copyRow_16 : decode cX10_copyRow 16 = .ok (.getfield 7, 3) := by decide +kernel
theorem dX10_copyRow_19 : decode cX10_copyRow 19 = .ok (.iload_n 1, 1) := by decide +kernel
theorem dX10_copyRow_20 : decode cX10_copyRow 20 = .ok (.iload_n 3, 1) := by decide +kernel
theorem dX10_copyRow_21 : decode cX10_copyRow 21 = .ok (.iadd, 1) := by decide +kernel
theorem dX10_copyRow_22 : decode cX10_copyRow 22 = .ok (.iaload, 1) := by decide +kernel
theorem dX10_copyRow_23 : decode cX10_copyRow 23 = .ok (.iastore, 1) := by decide +kernel
theorem dX10_copyRow_24 : decode cX10_copyRow 24 = .ok (.iinc 3 1, 3) := by decide +kernel
theorem dX10_copyRow_27 : decode cX10_copyRow 27 = .ok (.goto (-25), 3) := by decide +kernel
theorem dX10_copyRow_30 : decode cX10_copyRow 30 = .ok (.return_, 1) := by decide +kernel
theorem dX10_remember_0 : decode cX10_remember 0 = .ok (.bipush 16, 2) := by decide +kernel
theorem dX10_remember_2 : decode cX10_remember 2 = .ok (.istore_n 1, 1) := by decide +kernel
theorem dX10_remember_3 : decode cX10_remember 3 = .ok (.iload_n 1, 1) := by decide +kernel
theorem dX10_remember_4 : decode cX10_remember 4 = .ok (.ifCond .le 23, 3) := by decide +kernel
theorem dX10_remember_7 : decode cX10_remember 7 = .ok (.aload_n 0, 1) := by decide +kernel
theorem dX10_remember_8 : decode cX10_remember 8 = .ok (.bipush 82, 2) := by decide +kernel
theorem dX10_remember_10 : decode cX10_remember 10 = .ok (.iload_n 1, 1) := by decide +kernel
theorem dX10_remember_11 : decode cX10_remember 11 = .ok (.iconst 1, 1) := by decide +kernel
theorem dX10_remember_12 : decode cX10_remember 12 = .ok (.isub, 1) := by decide +kernel
theorem dX10_remember_13 : decode cX10_remember 13 = .ok (.imul, 1) := by decide +kernel
theorem dX10_remember_14 : decode cX10_remember 14 = .ok (.bipush 82, 2) := by decide +kernel
theorem dX10_remember_16 : decode cX10_remember 16 = .ok (.iload_n 1, 1) := by decide +kernel
theorem dX10_remember_17 : decode cX10_remember 17 = .ok (.imul, 1) := by decide +kernel
theorem dX10_remember_18 : decode cX10_remember 18 = .ok (.invokevirtual 47, 3) := by decide +kernel
theorem dX10_remember_21 : decode cX10_remember 21 = .ok (.iinc 1 (-1), 3) := by decide +kernel
theorem dX10_remember_24 : decode cX10_remember 24 = .ok (.goto (-21), 3) := by decide +kernel
theorem dX10_remember_27 : decode cX10_remember 27 = .ok (.aload_n 0, 1) := by decide +kernel
theorem dX10_remember_28 : decode cX10_remember 28 = .ok (.aload_n 0, 1) := by decide +kernel
theorem dX10_remember_29 : decode cX10_remember 29 = .ok (.getfield 51, 3) := by decide +kernel
theorem dX10_remember_32 : decode cX10_remember 32 = .ok (.bipush 16, 2) := by decide +kernel
theorem dX10_remember_34 : decode cX10_remember 34 = .ok (.if_icmp .ge 12, 3) := by decide +kernel
theorem dX10_remember_37 : decode cX10_remember 37 = .ok (.aload_n 0, 1) := by decide +kernel
theorem dX10_remember_38 : decode cX10_remember 38 = .ok (.getfield 51, 3) := by decide +kernel
theorem dX10_remember_41 : decode cX10_remember 41 = .ok (.iconst 1, 1) := by decide +kernel
theorem dX10_remember_42 : decode cX10_remember 42 = .ok (.iadd, 1) := by decide +kernel
theorem dX10_remember_43 : decode cX10_remember 43 = .ok (.goto 5, 3) := by decide +kernel
theorem dX10_remember_46 : decode cX10_remember 46 = .ok (.bipush 16, 2) := by decide +kernel
theorem dX10_remember_48 : decode cX10_remember 48 = .ok (.putfield 51, 3) := by decide +kernel
theorem dX10_remember_51 : decode cX10_remember 51 = .ok (.return_, 1) := by decide +kernel
theorem dX10_place_0 : decode cX10_place 0 = .ok (.iconst 2, 1) := by decide +kernel
theorem dX10_place_1 : decode cX10_place 1 = .ok (.bipush 10, 2) := by decide +kernel
theorem dX10_place_3 : decode cX10_place 3 = .ok (.iload_n 2, 1) := by decide +kernel
theorem dX10_place_4 : decode cX10_place 4 = .ok (.imul, 1) := by decide +kernel
theorem dX10_place_5 : decode cX10_place 5 = .ok (.iadd, 1) := by decide +kernel
theorem dX10_place_6 : decode cX10_place 6 = .ok (.iload_n 1, 1) := by decide +kernel
theorem dX10_place_7 : decode cX10_place 7 = .ok (.iadd, 1) := by decide +kernel
theorem dX10_place_8 : decode cX10_place 8 = .ok (.ireturn, 1) := by decide +kernel
theorem dX10_grey_0 : decode cX10_grey 0 = .ok (.aload_n 0, 1) := by decide +kernel
theorem dX10_grey_1 : decode cX10_grey 1 = .ok (.getfield 7, 3) := by decide +kernel
theorem dX10_grey_4 : decode cX10_grey 4 = .ok (.aload_n 0, 1) := by decide +kernel
theorem dX10_grey_5 : decode cX10_grey 5 = .ok (.iload_n 1, 1) := by decide +kernel
theorem dX10_grey_6 : decode cX10_grey 6 = .ok (.iload_n 2, 1) := by decide +kernel
theorem dX10_grey_7 : decode cX10_grey 7 = .ok (.invokevirtual 54, 3) := by decide +kernel
theorem dX10_grey_10 : decode cX10_grey 10 = .ok (.iaload, 1) := by decide +kernel
theorem dX10_grey_11 : decode cX10_grey 11 = .ok (.sipush 256, 3) := by decide +kernel
theorem dX10_grey_14 : decode cX10_grey 14 = .ok (.irem, 1) := by decide +kernel
theorem dX10_grey_15 : decode cX10_grey 15 = .ok (.ireturn, 1) := by decide +kernel
theorem dX10_isMasked_0 : decode cX10_isMasked 0 = .ok (.aload_n 0, 1) := by decide +kernel
theorem dX10_isMasked_1 : decode cX10_isMasked 1 = .ok (.getfield 7, 3) := by decide +kernel
theorem dX10_isMasked_4 : decode cX10_isMasked 4 = .ok (.aload_n 0, 1) := by decide +kernel
theorem dX10_isMasked_5 : decode cX10_isMasked 5 = .ok (.iload_n 1, 1) := by decide +kernel
theorem dX10_isMasked_6 : decode cX10_isMasked 6 = .ok (.iload_n 2, 1) := by decide +kernel
theorem dX10_isMasked_7 : decode cX10_isMasked 7 = .ok (.invokevirtual 54, 3) := by decide +kernel
theorem dX10_isMasked_10 : decode cX10_isMasked 10 = .ok (.iaload, 1) := by decide +kernel
theorem dX10_isMasked_11 : decode cX10_isMasked 11 = .ok (.sipush 256, 3) := by decide +kernel
theorem dX10_isMasked_14 : decode cX10_isMasked 14 = .ok (.if_icmp .lt 7, 3) := by decide +kernel
theorem dX10_isMasked_17 : decode cX10_isMasked 17 = .ok (.iconst 1, 1) := by decide +kernel
theorem dX10_isMasked_18 : decode cX10_isMasked 18 = .ok (.goto 4, 3) := by decide +kernel
theorem dX10_isMasked_21 : decode cX10_isMasked 21 = .ok (.iconst 0, 1) := by decide +kernel
theorem dX10_isMasked_22 : decode cX10_isMasked 22 = .ok (.ireturn, 1) := by decide +kernel
theorem dX10_isDot_0 : decode cX10_isDot 0 = .ok (.iload_n 1, 1) := by decide +kernel
theorem dX10_isDot_1 : decode cX10_isDot 1 = .ok (.i2l, 1) := by decide +kernel
theorem dX10_isDot_2 : decode cX10_isDot 2 = .ok (.lconst 0, 1) := by decide +kernel
theorem dX10_isDot_3 : decode cX10_isDot 3 = .ok (.aload_n 0, 1) := by decide +kernel
theorem dX10_isDot_4 : decode cX10_isDot 4 = .ok (.getfield 7, 3) := by decide +kernel
theorem dX10_isDot_7 : decode cX10_isDot 7 = .ok (.iconst 0, 1) := by decide +kernel
theorem dX10_isDot_8 : decode cX10_isDot 8 = .ok (.iaload, 1) := by decide +kernel
theorem dX10_isDot_9 : decode cX10_isDot 9 = .ok (.iconst 1, 1) := by decide +kernel
theorem dX10_isDot_10 : decode cX10_isDot 10 = .ok (.isub, 1) := by decide +kernel
theorem dX10_isDot_11 : decode cX10_isDot 11 = .ok (.i2l, 1) := by decide +kernel
theorem dX10_isDot_12 : decode cX10_isDot 12 = .ok (.invokestatic 58, 3) := by decide +kernel
theorem dX10_isDot_15 : decode cX10_isDot 15 = .ok (.ifCond .eq 25, 3) := by decide +kernel
theorem dX10_isDot_18 : decode cX10_isDot 18 = .ok (.iload_n 2, 1) := by decide +kernel
theorem dX10_isDot_19 : decode cX10_isDot 19 = .ok (.i2l, 1) := by decide +kernel
theorem dX10_isDot_20 : decode cX10_isDot 20 = .ok (.lconst 0, 1) := by decide +kernel
theorem dX10_isDot_21 : decode cX10_isDot 21 = .ok (.aload_n 0, 1) := by decide +kernel
theorem dX10_isDot_22 : decode cX10_isDot 22 = .ok (.getfield 7, 3) := by decide +kernel
theorem dX10_isDot_25 : decode cX10_isDot 25 = .ok (.iconst 1, 1) := by decide +kernel
theorem dX10_isDot_26 : decode cX10_isDot 26 = .ok (.iaload, 1) := by decide +kernel
theorem dX10_isDot_27 : decode cX10_isDot 27 = .ok (.iconst 1, 1) := by decide +kernel
theorem dX10_isDot_28 : decode cX10_isDot 28 = .ok (.isub, 1) := by decide +kernel
theorem dX10_isDot_29 : decode cX10_isDot 29 = .ok (.i2l, 1) := by decide +kernel
theorem dX10_isDot_30 : decode cX10_isDot 30 = .ok (.invokestatic 58, 3) := by decide +kernel
theorem dX10_isDot_33 : decode cX10_isDot 33 = .ok (.ifCond .eq 7, 3) := by decide +kernel
theorem dX10_isDot_36 : decode cX10_isDot 36 = .ok (.iconst 1, 1) := by decide +kernel
theorem dX10_isDot_37 : decode cX10_isDot 37 = .ok (.goto 4, 3) := by decide +kernel
theorem dX10_isDot_40 : decode cX10_isDot 40 = .ok (.iconst 0, 1) := by decide +kernel
theorem dX10_isDot_41 : decode cX10_isDot 41 = .ok (.ireturn, 1) := by decide +kernel
theorem dX10_setGrey_0 : decode cX10_setGrey 0 = .ok (.aload_n 0, 1) := by decide +kernel
theorem dX10_setGrey_1 : decode cX10_setGrey 1 = .ok (.getfield 7, 3) := by decide +kernel
theorem dX10_setGrey_4 : decode cX10_setGrey 4 = .ok (.aload_n 0, 1) := by decide +kernel
theorem dX10_setGrey_5 : decode cX10_setGrey 5 = .ok (.iload_n 1, 1) := by decide +kernel
theorem dX10_setGrey_6 : decode cX10_setGrey 6 = .ok (.iload_n 2, 1) := by decide +kernel
theorem dX10_setGrey_7 : decode cX10_setGrey 7 = .ok (.invokevirtual 54, 3) := by decide +kernel
theorem dX10_setGrey_10 : decode cX10_setGrey 10 = .ok (.iload_n 3, 1) := by decide +kernel
theorem dX10_setGrey_11 : decode cX10_setGrey 11 = .ok (.aload_n 0, 1) := by decide +kernel
theorem dX10_setGrey_12 : decode cX10_setGrey 12 = .ok (.iload_n 1, 1) := by decide +kernel
theorem dX10_setGrey_13 : decode cX10_setGrey 13 = .ok (.iload_n 2, 1) := by decide +kernel
theorem dX10_setGrey_14 : decode cX10_setGrey 14 = .ok (.invokevirtual 62, 3) := by decide +kernel
theorem dX10_setGrey_17 : decode cX10_setGrey 17 = .ok (.ifCond .eq 9, 3) := by decide +kernel
theorem dX10_setGrey_20 : decode cX10_setGrey 20 = .ok (.sipush 256, 3) := by decide +kernel
theorem dX10_setGrey_23 : decode cX10_setGrey 23 = .ok (.goto 4, 3) := by decide +kernel
theorem dX10_setGrey_26 : decode cX10_setGrey 26 = .ok (.iconst 0, 1) := by decide +kernel
theorem dX10_setGrey_27 : decode cX10_setGrey 27 = .ok (.iadd, 1) := by decide +kernel
theorem dX10_setGrey_28 : decode cX10_setGrey 28 = .ok (.iastore, 1) := by decide +kernel
theorem dX10_setGrey_29 : decode cX10_setGrey 29 = .ok (.return_, 1) := by decide +kernel
theorem dX10_figure_0 : decode cX10_figure 0 = .ok (.iload_n 0, 1) := by decide +kernel
theorem dX10_figure_1 : decode cX10_figure 1 = .ok (.i2l, 1) := by decide +kernel
theorem dX10_figure_2 : decode cX10_figure 2 = .ok (.ldc2_w 66, 3) := by decide +kernel
theorem dX10_figure_5 : decode cX10_figure 5 = .ok (.ldc2_w 68, 3) := by decide +kernel
theorem dX10_figure_8 : decode cX10_figure 8 = .ok (.invokestatic 58, 3) := by decide +kernel
theorem dX10_figure_11 : decode cX10_figure 11 = .ok (.ifCond .eq 10, 3) := by decide +kernel
theorem dX10_figure_14 : decode cX10_figure 14 = .ok (.iload_n 0, 1) := by decide +kernel
theorem dX10_figure_15 : decode cX10_figure 15 = .ok (.bipush 48, 2) := by decide +kernel
theorem dX10_figure_17 : decode cX10_figure 17 = .ok (.isub, 1) := by decide +kernel
theorem dX10_figure_18 : decode cX10_figure 18 = .ok (.goto 28, 3) := by decide +kernel
theorem dX10_figure_21 : decode cX10_figure 21 = .ok (.iload_n 0, 1) := by decide +kernel
theorem dX10_figure_22 : decode cX10_figure 22 = .ok (.i2l, 1) := by decide +kernel
theorem dX10_figure_23 : decode cX10_figure 23 = .ok (.ldc2_w 70, 3) := by decide +kernel
theorem dX10_figure_26 : decode cX10_figure 26 = .ok (.ldc2_w 72, 3) := by decide +kernel
theorem dX10_figure_29 : decode cX10_figure 29 = .ok (.invokestatic 58, 3) := by decide +kernel
theorem dX10_figure_32 : decode cX10_figure 32 = .ok (.ifCond .eq 13, 3) := by decide +kernel
theorem dX10_figure_35 : decode cX10_figure 35 = .ok (.iload_n 0, 1) := by decide +kernel
theorem dX10_figure_36 : decode cX10_figure 36 = .ok (.bipush 97, 2) := by decide +kernel
theorem dX10_figure_38 : decode cX10_figure 38 = .ok (.isub, 1) := by decide +kernel
theorem dX10_figure_39 : decode cX10_figure 39 = .ok (.bipush 10, 2) := by decide +kernel
theorem dX10_figure_41 : decode cX10_figure 41 = .ok (.iadd, 1) := by decide +kernel
theorem dX10_figure_42 : decode cX10_figure 42 = .ok (.goto 4, 3) := by decide +kernel
theorem dX10_figure_45 : decode cX10_figure 45 = .ok (.iconst (-1), 1) := by decide +kernel
theorem dX10_figure_46 : decode cX10_figure 46 = .ok (.ireturn, 1) := by decide +kernel
theorem dX10_isShort_0 : decode cX10_isShort 0 = .ok (.aload_n 0, 1) := by decide +kernel
theorem dX10_isShort_1 : decode cX10_isShort 1 = .ok (.getfield 74, 3) := by decide +kernel
theorem dX10_isShort_4 : decode cX10_isShort 4 = .ok (.ifCond .le 18, 3) := by decide +kernel
theorem dX10_isShort_7 : decode cX10_isShort 7 = .ok (.aload_n 0, 1) := by decide +kernel
theorem dX10_isShort_8 : decode cX10_isShort 8 = .ok (.getfield 77, 3) := by decide +kernel
theorem dX10_isShort_11 : decode cX10_isShort 11 = .ok (.aload_n 0, 1) := by decide +kernel
theorem dX10_isShort_12 : decode cX10_isShort 12 = .ok (.getfield 80, 3) := by decide +kernel
theorem dX10_isShort_15 : decode cX10_isShort 15 = .ok (.if_icmp .ge 7, 3) := by decide +kernel
theorem dX10_isShort_18 : decode cX10_isShort 18 = .ok (.iconst 1, 1) := by decide +kernel
theorem dX10_isShort_19 : decode cX10_isShort 19 = .ok (.goto 4, 3) := by decide +kernel
theorem dX10_isShort_22 : decode cX10_isShort 22 = .ok (.iconst 0, 1) := by decide +kernel
theorem dX10_isShort_23 : decode cX10_isShort 23 = .ok (.ireturn, 1) := by decide +kernel
theorem dX10_faultOfBreak_0 : decode cX10_faultOfBreak 0 = .ok (.aload_n 0, 1) := by decide +kernel
theorem dX10_faultOfBreak_1 : decode cX10_faultOfBreak 1 = .ok (.getfield 83, 3) := by decide +kernel
theorem dX10_faultOfBreak_4 : decode cX10_faultOfBreak 4 = .ok (.ifCond .gt 10, 3) := by decide +kernel
theorem dX10_faultOfBreak_7 : decode cX10_faultOfBreak 7 = .ok (.aload_n 0, 1) := by decide +kernel
theorem dX10_faultOfBreak_8 : decode cX10_faultOfBreak 8 = .ok (.getfield 77, 3) := by decide +kernel
theorem dX10_faultOfBreak_11 : decode cX10_faultOfBreak 11 = .ok (.ifCond .ne 5, 3) := by decide +kernel
theorem dX10_faultOfBreak_14 : decode cX10_faultOfBreak 14 = .ok (.iconst 1, 1) := by decide +kernel
theorem dX10_faultOfBreak_15 : decode cX10_faultOfBreak 15 = .ok (.ireturn, 1) := by decide +kernel
theorem dX10_faultOfBreak_16 : decode cX10_faultOfBreak 16 = .ok (.aload_n 0, 1) := by decide +kernel
theorem dX10_faultOfBreak_17 : decode cX10_faultOfBreak 17 = .ok (.invokevirtual 86, 3) := by decide +kernel
theorem dX10_faultOfBreak_20 : decode cX10_faultOfBreak 20 = .ok (.ifCond .eq 7, 3) := by decide +kernel
theorem dX10_faultOfBreak_23 : decode cX10_faultOfBreak 23 = .ok (.iconst 2, 1) := by decide +kernel
theorem dX10_faultOfBreak_24 : decode cX10_faultOfBreak 24 = .ok (.goto 17, 3) := by decide +kernel
theorem dX10_faultOfBreak_27 : decode cX10_faultOfBreak 27 = .ok (.aload_n 0, 1) := by decide +kernel
theorem dX10_faultOfBreak_28 : decode cX10_faultOfBreak 28 = .ok (.getfield 74, 3) := by decide +kernel
theorem dX10_faultOfBreak_31 : decode cX10_faultOfBreak 31 = .ok (.bipush 7, 2) := by decide +kernel
theorem dX10_faultOfBreak_33 : decode cX10_faultOfBreak 33 = .ok (.if_icmp .ne 7, 3) := by decide +kernel
theorem dX10_faultOfBreak_36 : decode cX10_faultOfBreak 36 = .ok (.iconst 3, 1) := by decide +kernel
theorem dX10_faultOfBreak_37 : decode cX10_faultOfBreak 37 = .ok (.goto 4, 3) := by decide +kernel
theorem dX10_faultOfBreak_40 : decode cX10_faultOfBreak 40 = .ok (.iconst 0, 1) := by decide +kernel
theorem dX10_faultOfBreak_41 : decode cX10_faultOfBreak 41 = .ok (.ireturn, 1) := by decide +kernel
theorem dX10_faultOf_0 : decode cX10_faultOf 0 = .ok (.iload_n 1, 1) := by decide +kernel
theorem dX10_faultOf_1 : decode cX10_faultOf 1 = .ok (.bipush 47, 2) := by decide +kernel
theorem dX10_faultOf_3 : decode cX10_faultOf 3 = .ok (.if_icmp .ne 8, 3) := by decide +kernel
theorem dX10_faultOf_6 : decode cX10_faultOf 6 = .ok (.aload_n 0, 1) := by decide +kernel
theorem dX10_faultOf_7 : decode cX10_faultOf 7 = .ok (.invokevirtual 90, 3) := by decide +kernel
theorem dX10_faultOf_10 : decode cX10_faultOf 10 = .ok (.ireturn, 1) := by decide +kernel
theorem dX10_faultOf_11 : decode cX10_faultOf 11 = .ok (.iload_n 1, 1) := by decide +kernel
theorem dX10_faultOf_12 : decode cX10_faultOf 12 = .ok (.bipush 45, 2) := by decide +kernel
theorem dX10_faultOf_14 : decode cX10_faultOf 14 = .ok (.if_icmp .ne 7, 3) := by decide +kernel
theorem dX10_faultOf_17 : decode cX10_faultOf 17 = .ok (.iconst 1, 1) := by decide +kernel
theorem dX10_faultOf_18 : decode cX10_faultOf 18 = .ok (.goto 4, 3) := by decide +kernel
theorem dX10_faultOf_21 : decode cX10_faultOf 21 = .ok (.iconst 0, 1) := by decide +kernel
theorem dX10_faultOf_22 : decode cX10_faultOf 22 = .ok (.istore_n 2, 1) := by decide +kernel
theorem dX10_faultOf_23 : decode cX10_faultOf 23 = .ok (.iload_n 2, 1) := by decide +kernel
theorem dX10_faultOf_24 : decode cX10_faultOf 24 = .ok (.ifCond .ne 12, 3) := by decide +kernel
theorem dX10_faultOf_27 : decode cX10_faultOf 27 = .ok (.iload_n 1, 1) := by decide +kernel
theorem dX10_faultOf_28 : decode cX10_faultOf 28 = .ok (.invokestatic 94, 3) := by decide +kernel
theorem dX10_faultOf_31 : decode cX10_faultOf 31 = .ok (.ifCond .ge 5, 3) := by decide +kernel
theorem dX10_faultOf_34 : decode cX10_faultOf 34 = .ok (.iconst 1, 1) := by decide +kernel
theorem dX10_faultOf_35 : decode cX10_faultOf 35 = .ok (.ireturn, 1) := by decide +kernel
theorem dX10_faultOf_36 : decode cX10_faultOf 36 = .ok (.aload_n 0, 1) := by decide +kernel
theorem dX10_faultOf_37 : decode cX10_faultOf 37 = .ok (.getfield 83, 3) := by decide +kernel
theorem dX10_faultOf_40 : decode cX10_faultOf 40 = .ok (.ifCond .le 27, 3) := by decide +kernel
theorem dX10_faultOf_43 : decode cX10_faultOf 43 = .ok (.aload_n 0, 1) := by decide +kernel
theorem dX10_faultOf_44 : decode cX10_faultOf 44 = .ok (.getfield 83, 3) := by decide +kernel
theorem dX10_faultOf_47 : decode cX10_faultOf 47 = .ok (.bipush 15, 2) := by decide +kernel
theorem dX10_faultOf_49 : decode cX10_faultOf 49 = .ok (.if_icmp .ne 7, 3) := by decide +kernel
theorem dX10_faultOf_52 : decode cX10_faultOf 52 = .ok (.iconst 1, 1) := by decide +kernel
theorem dX10_faultOf_53 : decode cX10_faultOf 53 = .ok (.goto 4, 3) := by decide +kernel
theorem dX10_faultOf_56 : decode cX10_faultOf 56 = .ok (.iconst 0, 1) := by decide +kernel
theorem dX10_faultOf_57 : decode cX10_faultOf 57 = .ok (.iload_n 2, 1) := by decide +kernel
theorem dX10_faultOf_58 : decode cX10_faultOf 58 = .ok (.if_icmp .ne 7, 3) := by decide +kernel
theorem dX10_faultOf_61 : decode cX10_faultOf 61 = .ok (.iconst 0, 1) := by decide +kernel
theorem dX10_faultOf_62 : decode cX10_faultOf 62 = .ok (.goto 4, 3) := by decide +kernel
theorem dX10_faultOf_65 : decode cX10_faultOf 65 = .ok (.iconst 1, 1) := by decide +kernel
theorem dX10_faultOf_66 : decode cX10_faultOf 66 = .ok (.ireturn, 1) := by decide +kernel
theorem dX10_faultOf_67 : decode cX10_faultOf 67 = .ok (.aload_n 0, 1) := by decide +kernel
theorem dX10_faultOf_68 : decode cX10_faultOf 68 = .ok (.getfield 77, 3) := by decide +kernel
theorem dX10_faultOf_71 : decode cX10_faultOf 71 = .ok (.bipush 10, 2) := by decide +kernel
theorem dX10_faultOf_73 : decode cX10_faultOf 73 = .ok (.if_icmp .eq 21, 3) := by decide +kernel
theorem dX10_faultOf_76 : decode cX10_faultOf 76 = .ok (.aload_n 0, 1) := by decide +kernel
theorem dX10_faultOf_77 : decode cX10_faultOf 77 = .ok (.getfield 74, 3) := by decide +kernel
theorem dX10_faultOf_80 : decode cX10_faultOf 80 = .ok (.ifCond .le 18, 3) := by decide +kernel
theorem dX10_faultOf_83 : decode cX10_faultOf 83 = .ok (.aload_n 0, 1) := by decide +kernel
theorem dX10_faultOf_84 : decode cX10_faultOf 84 = .ok (.getfield 77, 3) := by decide +kernel
theorem dX10_faultOf_87 : decode cX10_faultOf 87 = .ok (.aload_n 0, 1) := by decide +kernel
theorem dX10_faultOf_88 : decode cX10_faultOf 88 = .ok (.getfield 80, 3) := by decide +kernel
theorem dX10_faultOf_91 : decode cX10_faultOf 91 = .ok (.if_icmp .ne 7, 3) := by decide +kernel
theorem dX10_faultOf_94 : decode cX10_faultOf 94 = .ok (.iconst 2, 1) := by decide +kernel
theorem dX10_faultOf_95 : decode cX10_faultOf 95 = .ok (.goto 4, 3) := by decide +kernel
theorem dX10_faultOf_98 : decode cX10_faultOf 98 = .ok (.iconst 0, 1) := by decide +kernel
theorem dX10_faultOf_99 : decode cX10_faultOf 99 = .ok (.ireturn, 1) := by decide +kernel
theorem dX10_goOn_0 : decode cX10_goOn 0 = .ok (.iload_n 1, 1) := by decide +kernel
theorem dX10_goOn_1 : decode cX10_goOn 1 = .ok (.bipush 47, 2) := by decide +kernel
theorem dX10_goOn_3 : decode cX10_goOn 3 = .ok (.if_icmp .ne 43, 3) := by decide +kernel
theorem dX10_goOn_6 : decode cX10_goOn 6 = .ok (.aload_n 0, 1) := by decide +kernel
theorem dX10_goOn_7 : decode cX10_goOn 7 = .ok (.aload_n 0, 1) := by decide +kernel
theorem dX10_goOn_8 : decode cX10_goOn 8 = .ok (.getfield 74, 3) := by decide +kernel
theorem dX10_goOn_11 : decode cX10_goOn 11 = .ok (.ifCond .ne 10, 3) := by decide +kernel
theorem dX10_goOn_14 : decode cX10_goOn 14 = .ok (.aload_n 0, 1) := by decide +kernel
theorem dX10_goOn_15 : decode cX10_goOn 15 = .ok (.getfield 77, 3) := by decide +kernel
theorem dX10_goOn_18 : decode cX10_goOn 18 = .ok (.goto 7, 3) := by decide +kernel
theorem dX10_goOn_21 : decode cX10_goOn 21 = .ok (.aload_n 0, 1) := by decide +kernel
theorem dX10_goOn_22 : decode cX10_goOn 22 = .ok (.getfield 80, 3) := by decide +kernel
theorem dX10_goOn_25 : decode cX10_goOn 25 = .ok (.putfield 80, 3) := by decide +kernel
theorem dX10_goOn_28 : decode cX10_goOn 28 = .ok (.aload_n 0, 1) := by decide +kernel
theorem dX10_goOn_29 : decode cX10_goOn 29 = .ok (.dup, 1) := by decide +kernel
theorem dX10_goOn_30 : decode cX10_goOn 30 = .ok (.getfield 74, 3) := by decide +kernel
theorem dX10_goOn_33 : decode cX10_goOn 33 = .ok (.iconst 1, 1) := by decide +kernel
theorem dX10_goOn_34 : decode cX10_goOn 34 = .ok (.iadd, 1) := by decide +kernel
theorem dX10_goOn_35 : decode cX10_goOn 35 = .ok (.putfield 74, 3) := by decide +kernel
theorem dX10_goOn_38 : decode cX10_goOn 38 = .ok (.aload_n 0, 1) := by decide +kernel
theorem dX10_goOn_39 : decode cX10_goOn 39 = .ok (.iconst 0, 1) := by decide +kernel
theorem dX10_goOn_40 : decode cX10_goOn 40 = .ok (.putfield 77, 3) := by decide +kernel
theorem dX10_goOn_43 : decode cX10_goOn 43 = .ok (.goto 50, 3) := by decide +kernel
theorem dX10_goOn_46 : decode cX10_goOn 46 = .ok (.aload_n 0, 1) := by decide +kernel
theorem dX10_goOn_47 : decode cX10_goOn 47 = .ok (.getfield 83, 3) := by decide +kernel
theorem dX10_goOn_50 : decode cX10_goOn 50 = .ok (.ifCond .ne 28, 3) := by decide +kernel
theorem dX10_goOn_53 : decode cX10_goOn 53 = .ok (.aload_n 0, 1) := by decide +kernel
theorem dX10_goOn_54 : decode cX10_goOn 54 = .ok (.iload_n 1, 1) := by decide +kernel
theorem dX10_goOn_55 : decode cX10_goOn 55 = .ok (.bipush 45, 2) := by decide +kernel
theorem dX10_goOn_57 : decode cX10_goOn 57 = .ok (.if_icmp .ne 8, 3) := by decide +kernel
theorem dX10_goOn_60 : decode cX10_goOn 60 = .ok (.bipush 15, 2) := by decide +kernel
theorem dX10_goOn_62 : decode cX10_goOn 62 = .ok (.goto 10, 3) := by decide +kernel
theorem dX10_goOn_65 : decode cX10_goOn 65 = .ok (.bipush 16, 2) := by decide +kernel
theorem dX10_goOn_67 : decode cX10_goOn 67 = .ok (.iload_n 1, 1) := by decide +kernel
theorem dX10_goOn_68 : decode cX10_goOn 68 = .ok (.invokestatic 94, 3) := by decide +kernel
theorem dX10_goOn_71 : decode cX10_goOn 71 = .ok (.iadd, 1) := by decide +kernel
theorem dX10_goOn_72 : decode cX10_goOn 72 = .ok (.putfield 83, 3) := by decide +kernel
theorem dX10_goOn_75 : decode cX10_goOn 75 = .ok (.goto 18, 3) := by decide +kernel
theorem dX10_goOn_78 : decode cX10_goOn 78 = .ok (.aload_n 0, 1) := by decide +kernel
theorem dX10_goOn_79 : decode cX10_goOn 79 = .ok (.iconst 0, 1) := by decide +kernel
theorem dX10_goOn_80 : decode cX10_goOn 80 = .ok (.putfield 83, 3) := by decide +kernel
theorem dX10_goOn_83 : decode cX10_goOn 83 = .ok (.aload_n 0, 1) := by decide +kernel
theorem dX10_goOn_84 : decode cX10_goOn 84 = .ok (.dup, 1) := by decide +kernel
theorem dX10_goOn_85 : decode cX10_goOn 85 = .ok (.getfield 77, 3) := by decide +kernel
theorem dX10_goOn_88 : decode cX10_goOn 88 = .ok (.iconst 1, 1) := by decide +kernel
theorem dX10_goOn_89 : decode cX10_goOn 89 = .ok (.iadd, 1) := by decide +kernel
theorem dX10_goOn_90 : decode cX10_goOn 90 = .ok (.putfield 77, 3) := by decide +kernel
theorem dX10_goOn_93 : decode cX10_goOn 93 = .ok (.return_, 1) := by decide +kernel
theorem dX10_readText_0 : decode cX10_readText 0 = .ok (.aload_n 0, 1) := by decide +kernel
theorem dX10_readText_1 : decode cX10_readText 1 = .ok (.iconst 0, 1) := by decide +kernel
theorem dX10_readText_2 : decode cX10_readText 2 = .ok (.putfield 74, 3) := by decide +kernel
theorem dX10_readText_5 : decode cX10_readText 5 = .ok (.aload_n 0, 1) := by decide +kernel
theorem dX10_readText_6 : decode cX10_readText 6 = .ok (.iconst 0, 1) := by decide +kernel
theorem dX10_readText_7 : decode cX10_readText 7 = .ok (.putfield 77, 3) := by decide +kernel
theorem dX10_readText_10 : decode cX10_readText 10 = .ok (.aload_n 0, 1) := by decide +kernel
theorem dX10_readText_11 : decode cX10_readText 11 = .ok (.iconst 0, 1) := by decide +kernel
theorem dX10_readText_12 : decode cX10_readText 12 = .ok (.putfield 80, 3) := by decide +kernel
theorem dX10_readText_15 : decode cX10_readText 15 = .ok (.aload_n 0, 1) := by decide +kernel
theorem dX10_readText_16 : decode cX10_readText 16 = .ok (.iconst 0, 1) := by decide +kernel
theorem dX10_readText_17 : decode cX10_readText 17 = .ok (.putfield 83, 3) := by decide +kernel
theorem dX10_readText_20 : decode cX10_readText 20 = .ok (.iconst 0, 1) := by decide +kernel
theorem dX10_readText_21 : decode cX10_readText 21 = .ok (.istore_n 1, 1) := by decide +kernel
theorem dX10_readText_22 : decode cX10_readText 22 = .ok (.iload_n 1, 1) := by decide +kernel
theorem dX10_readText_23 : decode cX10_readText 23 = .ok (.aload_n 0, 1) := by decide +kernel
theorem dX10_readText_24 : decode cX10_readText 24 = .ok (.getfield 98, 3) := by decide +kernel
theorem dX10_readText_27 : decode cX10_readText 27 = .ok (.if_icmp .ge 41, 3) := by decide +kernel
theorem dX10_readText_30 : decode cX10_readText 30 = .ok (.aload_n 0, 1) := by decide +kernel
theorem dX10_readText_31 : decode cX10_readText 31 = .ok (.aload_n 0, 1) := by decide +kernel
theorem dX10_readText_32 : decode cX10_readText 32 = .ok (.getfield 13, 3) := by decide +kernel
theorem dX10_readText_35 : decode cX10_readText 35 = .ok (.iload_n 1, 1) := by decide +kernel
theorem dX10_readText_36 : decode cX10_readText 36 = .ok (.iaload, 1) := by decide +kernel
theorem dX10_readText_37 : decode cX10_readText 37 = .ok (.invokevirtual 101, 3) := by decide +kernel
theorem dX10_readText_40 : decode cX10_readText 40 = .ok (.istore_n 2, 1) := by decide +kernel
theorem dX10_readText_41 : decode cX10_readText 41 = .ok (.iload_n 2, 1) := by decide +kernel
theorem dX10_readText_42 : decode cX10_readText 42 = .ok (.ifCond .le 10, 3) := by decide +kernel
theorem dX10_readText_45 : decode cX10_readText 45 = .ok (.aload_n 0, 1) := by decide +kernel
theorem dX10_readText_46 : decode cX10_readText 46 = .ok (.iload_n 1, 1) := by decide +kernel
theorem dX10_readText_47 : decode cX10_readText 47 = .ok (.putfield 16, 3) := by decide +kernel
theorem dX10_readText_50 : decode cX10_readText 50 = .ok (.iload_n 2, 1) := by decide +kernel
theorem dX10_readText_51 : decode cX10_readText 51 = .ok (.ireturn, 1) := by decide +kernel
theorem dX10_readText_52 : decode cX10_readText 52 = .ok (.aload_n 0, 1) := by decide +kernel
theorem dX10_readText_53 : decode cX10_readText 53 = .ok (.aload_n 0, 1) := by decide +kernel
theorem dX10_readText_54 : decode cX10_readText 54 = .ok (.getfield 13, 3) := by decide +kernel
theorem dX10_readText_57 : decode cX10_readText 57 = .ok (.iload_n 1, 1) := by decide +kernel
theorem dX10_readText_58 : decode cX10_readText 58 = .ok (.iaload, 1) := by decide +kernel
theorem dX10_readText_59 : decode cX10_readText 59 = .ok (.invokevirtual 104, 3) := by decide +kernel
theorem dX10_readText_62 : decode cX10_readText 62 = .ok (.iinc 1 1, 3) := by decide +kernel
theorem dX10_readText_65 : decode cX10_readText 65 = .ok (.goto (-43), 3) := by decide +kernel
theorem dX10_readText_68 : decode cX10_readText 68 = .ok (.aload_n 0, 1) := by decide +kernel
theorem dX10_readText_69 : decode cX10_readText 69 = .ok (.getfield 83, 3) := by decide +kernel
theorem dX10_readText_72 : decode cX10_readText 72 = .ok (.ifCond .gt 10, 3) := by decide +kernel
theorem dX10_readText_75 : decode cX10_readText 75 = .ok (.aload_n 0, 1) := by decide +kernel
theorem dX10_readText_76 : decode cX10_readText 76 = .ok (.getfield 77, 3) := by decide +kernel
theorem dX10_readText_79 : decode cX10_readText 79 = .ok (.ifCond .ne 7, 3) := by decide +kernel
theorem dX10_readText_82 : decode cX10_readText 82 = .ok (.iconst 1, 1) := by decide +kernel
theorem dX10_readText_83 : decode cX10_readText 83 = .ok (.goto 15, 3) := by decide +kernel
theorem dX10_readText_86 : decode cX10_readText 86 = .ok (.aload_n 0, 1) := by decide +kernel
theorem dX10_readText_87 : decode cX10_readText 87 = .ok (.invokevirtual 86, 3) := by decide +kernel
theorem dX10_readText_90 : decode cX10_readText 90 = .ok (.ifCond .eq 7, 3) := by decide +kernel
theorem dX10_readText_93 : decode cX10_readText 93 = .ok (.iconst 2, 1) := by decide +kernel
theorem dX10_readText_94 : decode cX10_readText 94 = .ok (.goto 4, 3) := by decide +kernel
theorem dX10_readText_97 : decode cX10_readText 97 = .ok (.iconst 0, 1) := by decide +kernel
theorem dX10_readText_98 : decode cX10_readText 98 = .ok (.istore_n 1, 1) := by decide +kernel
theorem dX10_readText_99 : decode cX10_readText 99 = .ok (.aload_n 0, 1) := by decide +kernel
theorem dX10_readText_100 : decode cX10_readText 100 = .ok (.iload_n 1, 1) := by decide +kernel
theorem dX10_readText_101 : decode cX10_readText 101 = .ok (.ifCond .le 10, 3) := by decide +kernel
theorem dX10_readText_104 : decode cX10_readText 104 = .ok (.aload_n 0, 1) := by decide +kernel
theorem dX10_readText_105 : decode cX10_readText 105 = .ok (.getfield 98, 3) := by decide +kernel
theorem dX10_readText_108 : decode cX10_readText 108 = .ok (.goto 4, 3) := by decide +kernel
theorem dX10_readText_111 : decode cX10_readText 111 = .ok (.iconst (-1), 1) := by decide +kernel
theorem dX10_readText_112 : decode cX10_readText 112 = .ok (.putfield 16, 3) := by decide +kernel
theorem dX10_readText_115 : decode cX10_readText 115 = .ok (.iload_n 1, 1) := by decide +kernel
theorem dX10_readText_116 : decode cX10_readText 116 = .ok (.ireturn, 1) := by decide +kernel
theorem dX10_layPicture_0 : decode cX10_layPicture 0 = .ok (.iconst 0, 1) := by decide +kernel
theorem dX10_layPicture_1 : decode cX10_layPicture 1 = .ok (.istore_n 1, 1) := by decide +kernel
theorem dX10_layPicture_2 : decode cX10_layPicture 2 = .ok (.iconst 0, 1) := by decide +kernel
theorem dX10_layPicture_3 : decode cX10_layPicture 3 = .ok (.istore_n 2, 1) := by decide +kernel
theorem dX10_layPicture_4 : decode cX10_layPicture 4 = .ok (.iconst 0, 1) := by decide +kernel
theorem dX10_layPicture_5 : decode cX10_layPicture 5 = .ok (.istore_n 3, 1) := by decide +kernel
theorem dX10_layPicture_6 : decode cX10_layPicture 6 = .ok (.iload_n 3, 1) := by decide +kernel
theorem dX10_layPicture_7 : decode cX10_layPicture 7 = .ok (.aload_n 0, 1) := by decide +kernel
theorem dX10_layPicture_8 : decode cX10_layPicture 8 = .ok (.getfield 98, 3) := by decide +kernel
theorem dX10_layPicture_11 : decode cX10_layPicture 11 = .ok (.if_icmp .ge 99, 3) := by decide +kernel
theorem dX10_layPicture_14 : decode cX10_layPicture 14 = .ok (.aload_n 0, 1) := by decide +kernel
theorem dX10_layPicture_15 : decode cX10_layPicture 15 = .ok (.getfield 13, 3) := by decide +kernel
theorem dX10_layPicture_18 : decode cX10_layPicture 18 = .ok (.iload_n 3, 1) := by decide +kernel
theorem dX10_layPicture_19 : decode cX10_layPicture 19 = .ok (.iaload, 1) := by decide +kernel
theorem dX10_layPicture_20 : decode cX10_layPicture 20 = .ok (.bipush 47, 2) := by decide +kernel
theorem dX10_layPicture_22 : decode cX10_layPicture 22 = .ok (.if_icmp .ne 11, 3) := by decide +kernel
theorem dX10_layPicture_25 : decode cX10_layPicture 25 = .ok (.iconst 0, 1) := by decide +kernel
theorem dX10_layPicture_26 : decode cX10_layPicture 26 = .ok (.istore_n 1, 1) := by decide +kernel
theorem dX10_layPicture_27 : decode cX10_layPicture 27 = .ok (.iinc 2 1, 3) := by decide +kernel
theorem dX10_layPicture_30 : decode cX10_layPicture 30 = .ok (.goto 58, 3) := by decide +kernel
theorem dX10_layPicture_33 : decode cX10_layPicture 33 = .ok (.aload_n 0, 1) := by decide +kernel
theorem dX10_layPicture_34 : decode cX10_layPicture 34 = .ok (.getfield 7, 3) := by decide +kernel
theorem dX10_layPicture_37 : decode cX10_layPicture 37 = .ok (.aload_n 0, 1) := by decide +kernel
theorem dX10_layPicture_38 : decode cX10_layPicture 38 = .ok (.iload_n 1, 1) := by decide +kernel
theorem dX10_layPicture_39 : decode cX10_layPicture 39 = .ok (.iload_n 2, 1) := by decide +kernel
theorem dX10_layPicture_40 : decode cX10_layPicture 40 = .ok (.invokevirtual 54, 3) := by decide +kernel
theorem dX10_layPicture_43 : decode cX10_layPicture 43 = .ok (.aload_n 0, 1) := by decide +kernel
theorem dX10_layPicture_44 : decode cX10_layPicture 44 = .ok (.getfield 13, 3) := by decide +kernel
theorem dX10_layPicture_47 : decode cX10_layPicture 47 = .ok (.iload_n 3, 1) := by decide +kernel
theorem dX10_layPicture_48 : decode cX10_layPicture 48 = .ok (.iaload, 1) := by decide +kernel
theorem dX10_layPicture_49 : decode cX10_layPicture 49 = .ok (.bipush 45, 2) := by decide +kernel
theorem dX10_layPicture_51 : decode cX10_layPicture 51 = .ok (.if_icmp .ne 9, 3) := by decide +kernel
theorem dX10_layPicture_54 : decode cX10_layPicture 54 = .ok (.sipush 256, 3) := by decide +kernel
theorem dX10_layPicture_57 : decode cX10_layPicture 57 = .ok (.goto 27, 3) := by decide +kernel
theorem dX10_layPicture_60 : decode cX10_layPicture 60 = .ok (.bipush 16, 2) := by decide +kernel
theorem dX10_layPicture_62 : decode cX10_layPicture 62 = .ok (.aload_n 0, 1) := by decide +kernel
theorem dX10_layPicture_63 : decode cX10_layPicture 63 = .ok (.getfield 13, 3) := by decide +kernel
theorem dX10_layPicture_66 : decode cX10_layPicture 66 = .ok (.iload_n 3, 1) := by decide +kernel
theorem dX10_layPicture_67 : decode cX10_layPicture 67 = .ok (.iaload, 1) := by decide +kernel
theorem dX10_layPicture_68 : decode cX10_layPicture 68 = .ok (.invokestatic 94, 3) := by decide +kernel
theorem dX10_layPicture_71 : decode cX10_layPicture 71 = .ok (.imul, 1) := by decide +kernel
theorem dX10_layPicture_72 : decode cX10_layPicture 72 = .ok (.aload_n 0, 1) := by decide +kernel
theorem dX10_layPicture_73 : decode cX10_layPicture 73 = .ok (.getfield 13, 3) := by decide +kernel
theorem dX10_layPicture_76 : decode cX10_layPicture 76 = .ok (.iload_n 3, 1) := by decide +kernel
theorem dX10_layPicture_77 : decode cX10_layPicture 77 = .ok (.iconst 1, 1) := by decide +kernel
theorem dX10_layPicture_78 : decode cX10_layPicture 78 = .ok (.iadd, 1) := by decide +kernel
theorem dX10_layPicture_79 : decode cX10_layPicture 79 = .ok (.iaload, 1) := by decide +kernel
theorem dX10_layPicture_80 : decode cX10_layPicture 80 = .ok (.invokestatic 94, 3) := by decide +kernel
theorem dX10_layPicture_83 : decode cX10_layPicture 83 = .ok (.iadd, 1) := by decide +kernel
theorem dX10_layPicture_84 : decode cX10_layPicture 84 = .ok (.iastore, 1) := by decide +kernel
theorem dX10_layPicture_85 : decode cX10_layPicture 85 = .ok (.iinc 1 1, 3) := by decide +kernel
theorem dX10_layPicture_88 : decode cX10_layPicture 88 = .ok (.iload_n 3, 1) := by decide +kernel
theorem dX10_layPicture_89 : decode cX10_layPicture 89 = .ok (.aload_n 0, 1) := by decide +kernel
theorem dX10_layPicture_90 : decode cX10_layPicture 90 = .ok (.getfield 13, 3) := by decide +kernel
theorem dX10_layPicture_93 : decode cX10_layPicture 93 = .ok (.iload_n 3, 1) := by decide +kernel
theorem dX10_layPicture_94 : decode cX10_layPicture 94 = .ok (.iaload, 1) := by decide +kernel
theorem dX10_layPicture_95 : decode cX10_layPicture 95 = .ok (.bipush 47, 2) := by decide +kernel
theorem dX10_layPicture_97 : decode cX10_layPicture 97 = .ok (.if_icmp .ne 7, 3) := by decide +kernel
theorem dX10_layPicture_100 : decode cX10_layPicture 100 = .ok (.iconst 1, 1) := by decide +kernel
theorem dX10_layPicture_101 : decode cX10_layPicture 101 = .ok (.goto 4, 3) := by decide +kernel
theorem dX10_layPicture_104 : decode cX10_layPicture 104 = .ok (.iconst 2, 1) := by decide +kernel
theorem dX10_layPicture_105 : decode cX10_layPicture 105 = .ok (.iadd, 1) := by decide +kernel
theorem dX10_layPicture_106 : decode cX10_layPicture 106 = .ok (.istore_n 3, 1) := by decide +kernel
theorem dX10_layPicture_107 : decode cX10_layPicture 107 = .ok (.goto (-101), 3) := by decide +kernel
theorem dX10_layPicture_110 : decode cX10_layPicture 110 = .ok (.aload_n 0, 1) := by decide +kernel
theorem dX10_layPicture_111 : decode cX10_layPicture 111 = .ok (.getfield 7, 3) := by decide +kernel
theorem dX10_layPicture_114 : decode cX10_layPicture 114 = .ok (.iconst 0, 1) := by decide +kernel
theorem dX10_layPicture_115 : decode cX10_layPicture 115 = .ok (.iload_n 1, 1) := by decide +kernel
theorem dX10_layPicture_116 : decode cX10_layPicture 116 = .ok (.iastore, 1) := by decide +kernel
theorem dX10_layPicture_117 : decode cX10_layPicture 117 = .ok (.aload_n 0, 1) := by decide +kernel
theorem dX10_layPicture_118 : decode cX10_layPicture 118 = .ok (.getfield 7, 3) := by decide +kernel
theorem dX10_layPicture_121 : decode cX10_layPicture 121 = .ok (.iconst 1, 1) := by decide +kernel
theorem dX10_layPicture_122 : decode cX10_layPicture 122 = .ok (.iload_n 2, 1) := by decide +kernel
theorem dX10_layPicture_123 : decode cX10_layPicture 123 = .ok (.iconst 1, 1) := by decide +kernel
theorem dX10_layPicture_124 : decode cX10_layPicture 124 = .ok (.iadd, 1) := by decide +kernel
theorem dX10_layPicture_125 : decode cX10_layPicture 125 = .ok (.iastore, 1) := by decide +kernel
theorem dX10_layPicture_126 : decode cX10_layPicture 126 = .ok (.return_, 1) := by decide +kernel
theorem dX10_feed_0 : decode cX10_feed 0 = .ok (.iload_n 1, 1) := by decide +kernel
theorem dX10_feed_1 : decode cX10_feed 1 = .ok (.i2l, 1) := by decide +kernel
theorem dX10_feed_2 : decode cX10_feed 2 = .ok (.lconst 0, 1) := by decide +kernel
theorem dX10_feed_3 : decode cX10_feed 3 = .ok (.ldc2_w 108, 3) := by decide +kernel
theorem dX10_feed_6 : decode cX10_feed 6 = .ok (.invokestatic 58, 3) := by decide +kernel
theorem dX10_feed_9 : decode cX10_feed 9 = .ok (.ifCond .ne 6, 3) := by decide +kernel
theorem dX10_feed_12 : decode cX10_feed 12 = .ok (.ldc 110, 2) := by decide +kernel
theorem dX10_feed_14 : decode cX10_feed 14 = .ok (.ireturn, 1) := by decide +kernel
theorem dX10_feed_15 : decode cX10_feed 15 = .ok (.aload_n 0, 1) := by decide +kernel
theorem dX10_feed_16 : decode cX10_feed 16 = .ok (.getfield 98, 3) := by decide +kernel
theorem dX10_feed_19 : decode cX10_feed 19 = .ok (.sipush 180, 3) := by decide +kernel
theorem dX10_feed_22 : decode cX10_feed 22 = .ok (.if_icmp .ne 6, 3) := by decide +kernel
theorem dX10_feed_25 : decode cX10_feed 25 = .ok (.ldc 111, 2) := by decide +kernel
theorem dX10_feed_27 : decode cX10_feed 27 = .ok (.ireturn, 1) := by decide +kernel
theorem dX10_feed_28 : decode cX10_feed 28 = .ok (.aload_n 0, 1) := by decide +kernel
theorem dX10_feed_29 : decode cX10_feed 29 = .ok (.getfield 13, 3) := by decide +kernel
theorem dX10_feed_32 : decode cX10_feed 32 = .ok (.aload_n 0, 1) := by decide +kernel
theorem dX10_feed_33 : decode cX10_feed 33 = .ok (.getfield 98, 3) := by decide +kernel
theorem dX10_feed_36 : decode cX10_feed 36 = .ok (.iload_n 1, 1) := by decide +kernel
theorem dX10_feed_37 : decode cX10_feed 37 = .ok (.iastore, 1) := by decide +kernel
theorem dX10_feed_38 : decode cX10_feed 38 = .ok (.aload_n 0, 1) := by decide +kernel
theorem dX10_feed_39 : decode cX10_feed 39 = .ok (.dup, 1) := by decide +kernel
theorem dX10_feed_40 : decode cX10_feed 40 = .ok (.getfield 98, 3) := by decide +kernel
theorem dX10_feed_43 : decode cX10_feed 43 = .ok (.iconst 1, 1) := by decide +kernel
theorem dX10_feed_44 : decode cX10_feed 44 = .ok (.iadd, 1) := by decide +kernel
theorem dX10_feed_45 : decode cX10_feed 45 = .ok (.putfield 98, 3) := by decide +kernel
theorem dX10_feed_48 : decode cX10_feed 48 = .ok (.aload_n 0, 1) := by decide +kernel
theorem dX10_feed_49 : decode cX10_feed 49 = .ok (.getfield 98, 3) := by decide +kernel
theorem dX10_feed_52 : decode cX10_feed 52 = .ok (.ireturn, 1) := by decide +kernel
theorem dX10_picture_0 : decode cX10_picture 0 = .ok (.aload_n 0, 1) := by decide +kernel
theorem dX10_picture_1 : decode cX10_picture 1 = .ok (.invokevirtual 112, 3) := by decide +kernel
theorem dX10_picture_4 : decode cX10_picture 4 = .ok (.istore_n 1, 1) := by decide +kernel
theorem dX10_picture_5 : decode cX10_picture 5 = .ok (.iload_n 1, 1) := by decide +kernel
theorem dX10_picture_6 : decode cX10_picture 6 = .ok (.ifCond .ne 11, 3) := by decide +kernel
theorem dX10_picture_9 : decode cX10_picture 9 = .ok (.aload_n 0, 1) := by decide +kernel
theorem dX10_picture_10 : decode cX10_picture 10 = .ok (.invokevirtual 115, 3) := by decide +kernel
theorem dX10_picture_13 : decode cX10_picture 13 = .ok (.aload_n 0, 1) := by decide +kernel
theorem dX10_picture_14 : decode cX10_picture 14 = .ok (.invokevirtual 118, 3) := by decide +kernel
theorem dX10_picture_17 : decode cX10_picture 17 = .ok (.aload_n 0, 1) := by decide +kernel
theorem dX10_picture_18 : decode cX10_picture 18 = .ok (.iconst 0, 1) := by decide +kernel
theorem dX10_picture_19 : decode cX10_picture 19 = .ok (.putfield 98, 3) := by decide +kernel
theorem dX10_picture_22 : decode cX10_picture 22 = .ok (.iload_n 1, 1) := by decide +kernel
theorem dX10_picture_23 : decode cX10_picture 23 = .ok (.ifCond .le 10, 3) := by decide +kernel
theorem dX10_picture_26 : decode cX10_picture 26 = .ok (.bipush (-10), 2) := by decide +kernel
theorem dX10_picture_28 : decode cX10_picture 28 = .ok (.iload_n 1, 1) := by decide +kernel
theorem dX10_picture_29 : decode cX10_picture 29 = .ok (.isub, 1) := by decide +kernel
theorem dX10_picture_30 : decode cX10_picture 30 = .ok (.goto 16, 3) := by decide +kernel
theorem dX10_picture_33 : decode cX10_picture 33 = .ok (.aload_n 0, 1) := by decide +kernel
theorem dX10_picture_34 : decode cX10_picture 34 = .ok (.getfield 7, 3) := by decide +kernel
theorem dX10_picture_37 : decode cX10_picture 37 = .ok (.iconst 0, 1) := by decide +kernel
theorem dX10_picture_38 : decode cX10_picture 38 = .ok (.iaload, 1) := by decide +kernel
theorem dX10_picture_39 : decode cX10_picture 39 = .ok (.aload_n 0, 1) := by decide +kernel
theorem dX10_picture_40 : decode cX10_picture 40 = .ok (.getfield 7, 3) := by decide +kernel
theorem dX10_picture_43 : decode cX10_picture 43 = .ok (.iconst 1, 1) := by decide +kernel
theorem dX10_picture_44 : decode cX10_picture 44 = .ok (.iaload, 1) := by decide +kernel
theorem dX10_picture_45 : decode cX10_picture 45 = .ok (.imul, 1) := by decide +kernel
theorem dX10_picture_46 : decode cX10_picture 46 = .ok (.ireturn, 1) := by decide +kernel
theorem dX10_fault_0 : decode cX10_fault 0 = .ok (.aload_n 0, 1) := by decide +kernel
theorem dX10_fault_1 : decode cX10_fault 1 = .ok (.getfield 16, 3) := by decide +kernel
theorem dX10_fault_4 : decode cX10_fault 4 = .ok (.ireturn, 1) := by decide +kernel
theorem dX10_part_0 : decode cX10_part 0 = .ok (.aload_n 0, 1) := by decide +kernel
theorem dX10_part_1 : decode cX10_part 1 = .ok (.getfield 20, 3) := by decide +kernel
theorem dX10_part_4 : decode cX10_part 4 = .ok (.iconst 1, 1) := by decide +kernel
theorem dX10_part_5 : decode cX10_part 5 = .ok (.iconst 5, 1) := by decide +kernel
theorem dX10_part_6 : decode cX10_part 6 = .ok (.iload_n 1, 1) := by decide +kernel
theorem dX10_part_7 : decode cX10_part 7 = .ok (.imul, 1) := by decide +kernel
theorem dX10_part_8 : decode cX10_part 8 = .ok (.iadd, 1) := by decide +kernel
theorem dX10_part_9 : decode cX10_part 9 = .ok (.iload_n 2, 1) := by decide +kernel
theorem dX10_part_10 : decode cX10_part 10 = .ok (.iadd, 1) := by decide +kernel
theorem dX10_part_11 : decode cX10_part 11 = .ok (.iaload, 1) := by decide +kernel
theorem dX10_part_12 : decode cX10_part 12 = .ok (.ireturn, 1) := by decide +kernel
theorem dX10_count_0 : decode cX10_count 0 = .ok (.aload_n 0, 1) := by decide +kernel
theorem dX10_count_1 : decode cX10_count 1 = .ok (.getfield 121, 3) := by decide +kernel
theorem dX10_count_4 : decode cX10_count 4 = .ok (.istore_n 2, 1) := by decide +kernel
theorem dX10_count_5 : decode cX10_count 5 = .ok (.iload_n 2, 1) := by decide +kernel
theorem dX10_count_6 : decode cX10_count 6 = .ok (.ifCond .le 35, 3) := by decide +kernel
theorem dX10_count_9 : decode cX10_count 9 = .ok (.aload_n 0, 1) := by decide +kernel
theorem dX10_count_10 : decode cX10_count 10 = .ok (.getfield 41, 3) := by decide +kernel
theorem dX10_count_13 : decode cX10_count 13 = .ok (.iload_n 2, 1) := by decide +kernel
theorem dX10_count_14 : decode cX10_count 14 = .ok (.iconst 1, 1) := by decide +kernel
theorem dX10_count_15 : decode cX10_count 15 = .ok (.isub, 1) := by decide +kernel
theorem dX10_count_16 : decode cX10_count 16 = .ok (.iaload, 1) := by decide +kernel
theorem dX10_count_17 : decode cX10_count 17 = .ok (.iload_n 1, 1) := by decide +kernel
theorem dX10_count_18 : decode cX10_count 18 = .ok (.if_icmp .le 23, 3) := by decide +kernel
theorem dX10_count_21 : decode cX10_count 21 = .ok (.aload_n 0, 1) := by decide +kernel
theorem dX10_count_22 : decode cX10_count 22 = .ok (.getfield 41, 3) := by decide +kernel
theorem dX10_count_25 : decode cX10_count 25 = .ok (.iload_n 2, 1) := by decide +kernel
theorem dX10_count_26 : decode cX10_count 26 = .ok (.aload_n 0, 1) := by decide +kernel
theorem dX10_count_27 : decode cX10_count 27 = .ok (.getfield 41, 3) := by decide +kernel
theorem dX10_count_30 : decode cX10_count 30 = .ok (.iload_n 2, 1) := by decide +kernel
theorem dX10_count_31 : decode cX10_count 31 = .ok (.iconst 1, 1) := by decide +kernel
theorem dX10_count_32 : decode cX10_count 32 = .ok (.isub, 1) := by decide +kernel
theorem dX10_count_33 : decode cX10_count 33 = .ok (.iaload, 1) := by decide +kernel
theorem dX10_count_34 : decode cX10_count 34 = .ok (.iastore, 1) := by decide +kernel
theorem dX10_count_35 : decode cX10_count 35 = .ok (.iinc 2 (-1), 3) := by decide +kernel
theorem dX10_count_38 : decode cX10_count 38 = .ok (.goto (-33), 3) := by decide +kernel
theorem dX10_count_41 : decode cX10_count 41 = .ok (.aload_n 0, 1) := by decide +kernel
theorem dX10_count_42 : decode cX10_count 42 = .ok (.getfield 41, 3) := by decide +kernel
theorem dX10_count_45 : decode cX10_count 45 = .ok (.iload_n 2, 1) := by decide +kernel
theorem dX10_count_46 : decode cX10_count 46 = .ok (.iload_n 1, 1) := by decide +kernel
theorem dX10_count_47 : decode cX10_count 47 = .ok (.iastore, 1) := by decide +kernel
theorem dX10_count_48 : decode cX10_count 48 = .ok (.aload_n 0, 1) := by decide +kernel
theorem dX10_count_49 : decode cX10_count 49 = .ok (.dup, 1) := by decide +kernel
theorem dX10_count_50 : decode cX10_count 50 = .ok (.getfield 121, 3) := by decide +kernel
theorem dX10_count_53 : decode cX10_count 53 = .ok (.iconst 1, 1) := by decide +kernel
theorem dX10_count_54 : decode cX10_count 54 = .ok (.iadd, 1) := by decide +kernel
theorem dX10_count_55 : decode cX10_count 55 = .ok (.putfield 121, 3) := by decide +kernel
theorem dX10_count_58 : decode cX10_count 58 = .ok (.return_, 1) := by decide +kernel
theorem dX10_leftOver_0 : decode cX10_leftOver 0 = .ok (.iload_n 0, 1) := by decide +kernel
theorem dX10_leftOver_1 : decode cX10_leftOver 1 = .ok (.iload_n 1, 1) := by decide +kernel
theorem dX10_leftOver_2 : decode cX10_leftOver 2 = .ok (.irem, 1) := by decide +kernel
theorem dX10_leftOver_3 : decode cX10_leftOver 3 = .ok (.iload_n 1, 1) := by decide +kernel
theorem dX10_leftOver_4 : decode cX10_leftOver 4 = .ok (.iadd, 1) := by decide +kernel
theorem dX10_leftOver_5 : decode cX10_leftOver 5 = .ok (.iload_n 1, 1) := by decide +kernel
theorem dX10_leftOver_6 : decode cX10_leftOver 6 = .ok (.irem, 1) := by decide +kernel
theorem dX10_leftOver_7 : decode cX10_leftOver 7 = .ok (.ireturn, 1) := by decide +kernel
theorem dX10_standIn_0 : decode cX10_standIn 0 = .ok (.iload_n 0, 1) := by decide +kernel
theorem dX10_standIn_1 : decode cX10_standIn 1 = .ok (.iconst 1, 1) := by decide +kernel
theorem dX10_standIn_2 : decode cX10_standIn 2 = .ok (.if_icmp .ne 24, 3) := by decide +kernel
theorem dX10_standIn_5 : decode cX10_standIn 5 = .ok (.iload_n 1, 1) := by decide +kernel
theorem dX10_standIn_6 : decode cX10_standIn 6 = .ok (.ifCond .ge 7, 3) := by decide +kernel
theorem dX10_standIn_9 : decode cX10_standIn 9 = .ok (.iconst 0, 1) := by decide +kernel
theorem dX10_standIn_10 : decode cX10_standIn 10 = .ok (.goto 15, 3) := by decide +kernel
theorem dX10_standIn_13 : decode cX10_standIn 13 = .ok (.iload_n 1, 1) := by decide +kernel
theorem dX10_standIn_14 : decode cX10_standIn 14 = .ok (.iload_n 2, 1) := by decide +kernel
theorem dX10_standIn_15 : decode cX10_standIn 15 = .ok (.if_icmp .lt 9, 3) := by decide +kernel
theorem dX10_standIn_18 : decode cX10_standIn 18 = .ok (.iload_n 2, 1) := by decide +kernel
theorem dX10_standIn_19 : decode cX10_standIn 19 = .ok (.iconst 1, 1) := by decide +kernel
theorem dX10_standIn_20 : decode cX10_standIn 20 = .ok (.isub, 1) := by decide +kernel
theorem dX10_standIn_21 : decode cX10_standIn 21 = .ok (.goto 4, 3) := by decide +kernel
theorem dX10_standIn_24 : decode cX10_standIn 24 = .ok (.iload_n 1, 1) := by decide +kernel
theorem dX10_standIn_25 : decode cX10_standIn 25 = .ok (.ireturn, 1) := by decide +kernel
theorem dX10_standIn_26 : decode cX10_standIn 26 = .ok (.iload_n 0, 1) := by decide +kernel
theorem dX10_standIn_27 : decode cX10_standIn 27 = .ok (.iconst 3, 1) := by decide +kernel
theorem dX10_standIn_28 : decode cX10_standIn 28 = .ok (.if_icmp .ne 9, 3) := by decide +kernel
theorem dX10_standIn_31 : decode cX10_standIn 31 = .ok (.iload_n 1, 1) := by decide +kernel
theorem dX10_standIn_32 : decode cX10_standIn 32 = .ok (.iload_n 2, 1) := by decide +kernel
theorem dX10_standIn_33 : decode cX10_standIn 33 = .ok (.invokestatic 124, 3) := by decide +kernel
theorem dX10_standIn_36 : decode cX10_standIn 36 = .ok (.ireturn, 1) := by decide +kernel
theorem dX10_standIn_37 : decode cX10_standIn 37 = .ok (.iload_n 1, 1) := by decide +kernel
theorem dX10_standIn_38 : decode cX10_standIn 38 = .ok (.iconst 2, 1) := by decide +kernel
theorem dX10_standIn_39 : decode cX10_standIn 39 = .ok (.iload_n 2, 1) := by decide +kernel
theorem dX10_standIn_40 : decode cX10_standIn 40 = .ok (.imul, 1) := by decide +kernel
theorem dX10_standIn_41 : decode cX10_standIn 41 = .ok (.invokestatic 124, 3) := by decide +kernel
theorem dX10_standIn_44 : decode cX10_standIn 44 = .ok (.istore_n 3, 1) := by decide +kernel
theorem dX10_standIn_45 : decode cX10_standIn 45 = .ok (.iload_n 3, 1) := by decide +kernel
theorem dX10_standIn_46 : decode cX10_standIn 46 = .ok (.iload_n 2, 1) := by decide +kernel
theorem dX10_standIn_47 : decode cX10_standIn 47 = .ok (.if_icmp .ge 7, 3) := by decide +kernel
theorem dX10_standIn_50 : decode cX10_standIn 50 = .ok (.iload_n 3, 1) := by decide +kernel
theorem dX10_standIn_51 : decode cX10_standIn 51 = .ok (.goto 10, 3) := by decide +kernel
theorem dX10_standIn_54 : decode cX10_standIn 54 = .ok (.iconst 2, 1) := by decide +kernel
theorem dX10_standIn_55 : decode cX10_standIn 55 = .ok (.iload_n 2, 1) := by decide +kernel
theorem dX10_standIn_56 : decode cX10_standIn 56 = .ok (.imul, 1) := by decide +kernel
theorem dX10_standIn_57 : decode cX10_standIn 57 = .ok (.iconst 1, 1) := by decide +kernel
theorem dX10_standIn_58 : decode cX10_standIn 58 = .ok (.isub, 1) := by decide +kernel
theorem dX10_standIn_59 : decode cX10_standIn 59 = .ok (.iload_n 3, 1) := by decide +kernel
theorem dX10_standIn_60 : decode cX10_standIn 60 = .ok (.isub, 1) := by decide +kernel
theorem dX10_standIn_61 : decode cX10_standIn 61 = .ok (.ireturn, 1) := by decide +kernel
theorem dX10_countOut_0 : decode cX10_countOut 0 = .ok (.iload_n 1, 1) := by decide +kernel
theorem dX10_countOut_1 : decode cX10_countOut 1 = .ok (.iconst 4, 1) := by decide +kernel
theorem dX10_countOut_2 : decode cX10_countOut 2 = .ok (.if_icmp .ne 14, 3) := by decide +kernel
theorem dX10_countOut_5 : decode cX10_countOut 5 = .ok (.aload_n 0, 1) := by decide +kernel
theorem dX10_countOut_6 : decode cX10_countOut 6 = .ok (.aload_n 0, 1) := by decide +kernel
theorem dX10_countOut_7 : decode cX10_countOut 7 = .ok (.getfield 127, 3) := by decide +kernel
theorem dX10_countOut_10 : decode cX10_countOut 10 = .ok (.invokevirtual 130, 3) := by decide +kernel
theorem dX10_countOut_13 : decode cX10_countOut 13 = .ok (.goto 56, 3) := by decide +kernel
theorem dX10_countOut_16 : decode cX10_countOut 16 = .ok (.iload_n 1, 1) := by decide +kernel
theorem dX10_countOut_17 : decode cX10_countOut 17 = .ok (.ifCond .le 52, 3) := by decide +kernel
theorem dX10_countOut_20 : decode cX10_countOut 20 = .ok (.iload_n 1, 1) := by decide +kernel
theorem dX10_countOut_21 : decode cX10_countOut 21 = .ok (.iload_n 2, 1) := by decide +kernel
theorem dX10_countOut_22 : decode cX10_countOut 22 = .ok (.aload_n 0, 1) := by decide +kernel
theorem dX10_countOut_23 : decode cX10_countOut 23 = .ok (.getfield 7, 3) := by decide +kernel
theorem dX10_countOut_26 : decode cX10_countOut 26 = .ok (.iconst 0, 1) := by decide +kernel
theorem dX10_countOut_27 : decode cX10_countOut 27 = .ok (.iaload, 1) := by decide +kernel
theorem dX10_countOut_28 : decode cX10_countOut 28 = .ok (.invokestatic 133, 3) := by decide +kernel
theorem dX10_countOut_31 : decode cX10_countOut 31 = .ok (.istore 4, 2) := by decide +kernel
theorem dX10_countOut_33 : decode cX10_countOut 33 = .ok (.iload_n 1, 1) := by decide +kernel
theorem dX10_countOut_34 : decode cX10_countOut 34 = .ok (.iload_n 3, 1) := by decide +kernel
theorem dX10_countOut_35 : decode cX10_countOut 35 = .ok (.aload_n 0, 1) := by decide +kernel
theorem dX10_countOut_36 : decode cX10_countOut 36 = .ok (.getfield 7, 3) := by decide +kernel
theorem dX10_countOut_39 : decode cX10_countOut 39 = .ok (.iconst 1, 1) := by decide +kernel
theorem dX10_countOut_40 : decode cX10_countOut 40 = .ok (.iaload, 1) := by decide +kernel
theorem dX10_countOut_41 : decode cX10_countOut 41 = .ok (.invokestatic 133, 3) := by decide +kernel
theorem dX10_countOut_44 : decode cX10_countOut 44 = .ok (.istore 5, 2) := by decide +kernel
theorem dX10_countOut_46 : decode cX10_countOut 46 = .ok (.aload_n 0, 1) := by decide +kernel
theorem dX10_countOut_47 : decode cX10_countOut 47 = .ok (.iload 4, 2) := by decide +kernel
theorem dX10_countOut_49 : decode cX10_countOut 49 = .ok (.iload 5, 2) := by decide +kernel
theorem dX10_countOut_51 : decode cX10_countOut 51 = .ok (.invokevirtual 62, 3) := by decide +kernel
theorem dX10_countOut_54 : decode cX10_countOut 54 = .ok (.ifCond .ne 15, 3) := by decide +kernel
theorem dX10_countOut_57 : decode cX10_countOut 57 = .ok (.aload_n 0, 1) := by decide +kernel
theorem dX10_countOut_58 : decode cX10_countOut 58 = .ok (.aload_n 0, 1) := by decide +kernel
theorem dX10_countOut_59 : decode cX10_countOut 59 = .ok (.iload 4, 2) := by decide +kernel
theorem dX10_countOut_61 : decode cX10_countOut 61 = .ok (.iload 5, 2) := by decide +kernel
theorem dX10_countOut_63 : decode cX10_countOut 63 = .ok (.invokevirtual 137, 3) := by decide +kernel
theorem dX10_countOut_66 : decode cX10_countOut 66 = .ok (.invokevirtual 130, 3) := by decide +kernel
theorem dX10_countOut_69 : decode cX10_countOut 69 = .ok (.return_, 1) := by decide +kernel
theorem dX10_countAt_0 : decode cX10_countAt 0 = .ok (.aload_n 0, 1) := by decide +kernel
theorem dX10_countAt_1 : decode cX10_countAt 1 = .ok (.iload_n 2, 1) := by decide +kernel
theorem dX10_countAt_2 : decode cX10_countAt 2 = .ok (.iload_n 3, 1) := by decide +kernel
theorem dX10_countAt_3 : decode cX10_countAt 3 = .ok (.invokevirtual 140, 3) := by decide +kernel
theorem dX10_countAt_6 : decode cX10_countAt 6 = .ok (.ifCond .ne 18, 3) := by decide +kernel
theorem dX10_countAt_9 : decode cX10_countAt 9 = .ok (.aload_n 0, 1) := by decide +kernel
theorem dX10_countAt_10 : decode cX10_countAt 10 = .ok (.aload_n 0, 1) := by decide +kernel
theorem dX10_countAt_11 : decode cX10_countAt 11 = .ok (.iload_n 1, 1) := by decide +kernel
theorem dX10_countAt_12 : decode cX10_countAt 12 = .ok (.iconst 3, 1) := by decide +kernel
theorem dX10_countAt_13 : decode cX10_countAt 13 = .ok (.invokevirtual 143, 3) := by decide +kernel
theorem dX10_countAt_16 : decode cX10_countAt 16 = .ok (.iload_n 2, 1) := by decide +kernel
theorem dX10_countAt_17 : decode cX10_countAt 17 = .ok (.iload_n 3, 1) := by decide +kernel
theorem dX10_countAt_18 : decode cX10_countAt 18 = .ok (.invokevirtual 146, 3) := by decide +kernel
theorem dX10_countAt_21 : decode cX10_countAt 21 = .ok (.goto 55, 3) := by decide +kernel
theorem dX10_countAt_24 : decode cX10_countAt 24 = .ok (.aload_n 0, 1) := by decide +kernel
theorem dX10_countAt_25 : decode cX10_countAt 25 = .ok (.iload_n 2, 1) := by decide +kernel
theorem dX10_countAt_26 : decode cX10_countAt 26 = .ok (.iload_n 3, 1) := by decide +kernel
theorem dX10_countAt_27 : decode cX10_countAt 27 = .ok (.invokevirtual 62, 3) := by decide +kernel
theorem dX10_countAt_30 : decode cX10_countAt 30 = .ok (.ifCond .ne 46, 3) := by decide +kernel
theorem dX10_countAt_33 : decode cX10_countAt 33 = .ok (.iload 4, 2) := by decide +kernel
theorem dX10_countAt_35 : decode cX10_countAt 35 = .ok (.ifCond .eq 12, 3) := by decide +kernel
theorem dX10_countAt_38 : decode cX10_countAt 38 = .ok (.aload_n 0, 1) := by decide +kernel
theorem dX10_countAt_39 : decode cX10_countAt 39 = .ok (.iload_n 1, 1) := by decide +kernel
theorem dX10_countAt_40 : decode cX10_countAt 40 = .ok (.iconst 4, 1) := by decide +kernel
theorem dX10_countAt_41 : decode cX10_countAt 41 = .ok (.invokevirtual 143, 3) := by decide +kernel
theorem dX10_countAt_44 : decode cX10_countAt 44 = .ok (.goto 4, 3) := by decide +kernel
theorem dX10_countAt_47 : decode cX10_countAt 47 = .ok (.iconst 1, 1) := by decide +kernel
theorem dX10_countAt_48 : decode cX10_countAt 48 = .ok (.istore 5, 2) := by decide +kernel
theorem dX10_countAt_50 : decode cX10_countAt 50 = .ok (.iconst 0, 1) := by decide +kernel
theorem dX10_countAt_51 : decode cX10_countAt 51 = .ok (.istore 6, 2) := by decide +kernel
theorem dX10_countAt_53 : decode cX10_countAt 53 = .ok (.iload 6, 2) := by decide +kernel
theorem dX10_countAt_55 : decode cX10_countAt 55 = .ok (.iload 5, 2) := by decide +kernel
theorem dX10_countAt_57 : decode cX10_countAt 57 = .ok (.if_icmp .ge 19, 3) := by decide +kernel
theorem dX10_countAt_60 : decode cX10_countAt 60 = .ok (.aload_n 0, 1) := by decide +kernel
theorem dX10_countAt_61 : decode cX10_countAt 61 = .ok (.aload_n 0, 1) := by decide +kernel
theorem dX10_countAt_62 : decode cX10_countAt 62 = .ok (.iload_n 2, 1) := by decide +kernel
theorem dX10_countAt_63 : decode cX10_countAt 63 = .ok (.iload_n 3, 1) := by decide +kernel
theorem dX10_countAt_64 : decode cX10_countAt 64 = .ok (.invokevirtual 137, 3) := by decide +kernel
theorem dX10_countAt_67 : decode cX10_countAt 67 = .ok (.invokevirtual 130, 3) := by decide +kernel
theorem dX10_countAt_70 : decode cX10_countAt 70 = .ok (.iinc 6 1, 3) := by decide +kernel
theorem dX10_countAt_73 : decode cX10_countAt 73 = .ok (.goto (-20), 3) := by decide +kernel
theorem dX10_countAt_76 : decode cX10_countAt 76 = .ok (.return_, 1) := by decide +kernel
theorem dX10_layWindow_0 : decode cX10_layWindow 0 = .ok (.aload_n 0, 1) := by decide +kernel
theorem dX10_layWindow_1 : decode cX10_layWindow 1 = .ok (.iconst 0, 1) := by decide +kernel
theorem dX10_layWindow_2 : decode cX10_layWindow 2 = .ok (.putfield 121, 3) := by decide +kernel
theorem dX10_layWindow_5 : decode cX10_layWindow 5 = .ok (.aload_n 0, 1) := by decide +kernel
theorem dX10_layWindow_6 : decode cX10_layWindow 6 = .ok (.iload_n 1, 1) := by decide +kernel
theorem dX10_layWindow_7 : decode cX10_layWindow 7 = .ok (.iconst 1, 1) := by decide +kernel
theorem dX10_layWindow_8 : decode cX10_layWindow 8 = .ok (.invokevirtual 143, 3) := by decide +kernel
theorem dX10_layWindow_11 : decode cX10_layWindow 11 = .ok (.ineg, 1) := by decide +kernel
theorem dX10_layWindow_12 : decode cX10_layWindow 12 = .ok (.istore 4, 2) := by decide +kernel
theorem dX10_layWindow_14 : decode cX10_layWindow 14 = .ok (.iload 4, 2) := by decide +kernel
theorem dX10_layWindow_16 : decode cX10_layWindow 16 = .ok (.aload_n 0, 1) := by decide +kernel
theorem dX10_layWindow_17 : decode cX10_layWindow 17 = .ok (.iload_n 1, 1) := by decide +kernel
theorem dX10_layWindow_18 : decode cX10_layWindow 18 = .ok (.iconst 1, 1) := by decide +kernel
theorem dX10_layWindow_19 : decode cX10_layWindow 19 = .ok (.invokevirtual 143, 3) := by decide +kernel
theorem dX10_layWindow_22 : decode cX10_layWindow 22 = .ok (.if_icmp .gt 63, 3) := by decide +kernel
theorem dX10_layWindow_25 : decode cX10_layWindow 25 = .ok (.aload_n 0, 1) := by decide +kernel
theorem dX10_layWindow_26 : decode cX10_layWindow 26 = .ok (.iload_n 1, 1) := by decide +kernel
theorem dX10_layWindow_27 : decode cX10_layWindow 27 = .ok (.iconst 0, 1) := by decide +kernel
theorem dX10_layWindow_28 : decode cX10_layWindow 28 = .ok (.invokevirtual 143, 3) := by decide +kernel
theorem dX10_layWindow_31 : decode cX10_layWindow 31 = .ok (.ineg, 1) := by decide +kernel
theorem dX10_layWindow_32 : decode cX10_layWindow 32 = .ok (.istore 5, 2) := by decide +kernel
theorem dX10_layWindow_34 : decode cX10_layWindow 34 = .ok (.iload 5, 2) := by decide +kernel
theorem dX10_layWindow_36 : decode cX10_layWindow 36 = .ok (.aload_n 0, 1) := by decide +kernel
theorem dX10_layWindow_37 : decode cX10_layWindow 37 = .ok (.iload_n 1, 1) := by decide +kernel
theorem dX10_layWindow_38 : decode cX10_layWindow 38 = .ok (.iconst 0, 1) := by decide +kernel
theorem dX10_layWindow_39 : decode cX10_layWindow 39 = .ok (.invokevirtual 143, 3) := by decide +kernel
theorem dX10_layWindow_42 : decode cX10_layWindow 42 = .ok (.if_icmp .gt 37, 3) := by decide +kernel
theorem dX10_layWindow_45 : decode cX10_layWindow 45 = .ok (.aload_n 0, 1) := by decide +kernel
theorem dX10_layWindow_46 : decode cX10_layWindow 46 = .ok (.iload_n 1, 1) := by decide +kernel
theorem dX10_layWindow_47 : decode cX10_layWindow 47 = .ok (.iload_n 2, 1) := by decide +kernel
theorem dX10_layWindow_48 : decode cX10_layWindow 48 = .ok (.iload 5, 2) := by decide +kernel
theorem dX10_layWindow_50 : decode cX10_layWindow 50 = .ok (.iadd, 1) := by decide +kernel
theorem dX10_layWindow_51 : decode cX10_layWindow 51 = .ok (.iload_n 3, 1) := by decide +kernel
theorem dX10_layWindow_52 : decode cX10_layWindow 52 = .ok (.iload 4, 2) := by decide +kernel
theorem dX10_layWindow_54 : decode cX10_layWindow 54 = .ok (.iadd, 1) := by decide +kernel
theorem dX10_layWindow_55 : decode cX10_layWindow 55 = .ok (.iload 5, 2) := by decide +kernel
theorem dX10_layWindow_57 : decode cX10_layWindow 57 = .ok (.ifCond .ne 12, 3) := by decide +kernel
theorem dX10_layWindow_60 : decode cX10_layWindow 60 = .ok (.iload 4, 2) := by decide +kernel
theorem dX10_layWindow_62 : decode cX10_layWindow 62 = .ok (.ifCond .ne 7, 3) := by decide +kernel
theorem dX10_layWindow_65 : decode cX10_layWindow 65 = .ok (.iconst 1, 1) := by decide +kernel
theorem dX10_layWindow_66 : decode cX10_layWindow 66 = .ok (.goto 4, 3) := by decide +kernel
theorem dX10_layWindow_69 : decode cX10_layWindow 69 = .ok (.iconst 0, 1) := by decide +kernel
theorem dX10_layWindow_70 : decode cX10_layWindow 70 = .ok (.invokevirtual 150, 3) := by decide +kernel
theorem dX10_layWindow_73 : decode cX10_layWindow 73 = .ok (.iinc 5 1, 3) := by decide +kernel
theorem dX10_layWindow_76 : decode cX10_layWindow 76 = .ok (.goto (-42), 3) := by decide +kernel
theorem dX10_layWindow_79 : decode cX10_layWindow 79 = .ok (.iinc 4 1, 3) := by decide +kernel
theorem dX10_layWindow_82 : decode cX10_layWindow 82 = .ok (.goto (-68), 3) := by decide +kernel
theorem dX10_layWindow_85 : decode cX10_layWindow 85 = .ok (.return_, 1) := by decide +kernel
theorem dX10_lastOf_0 : decode cX10_lastOf 0 = .ok (.aload_n 0, 1) := by decide +kernel
theorem dX10_lastOf_1 : decode cX10_lastOf 1 = .ok (.iload_n 1, 1) := by decide +kernel
theorem dX10_lastOf_2 : decode cX10_lastOf 2 = .ok (.iload_n 2, 1) := by decide +kernel
theorem dX10_lastOf_3 : decode cX10_lastOf 3 = .ok (.iload_n 3, 1) := by decide +kernel
theorem dX10_lastOf_4 : decode cX10_lastOf 4 = .ok (.invokevirtual 154, 3) := by decide +kernel
theorem dX10_lastOf_7 : decode cX10_lastOf 7 = .ok (.aload_n 0, 1) := by decide +kernel
theorem dX10_lastOf_8 : decode cX10_lastOf 8 = .ok (.getfield 121, 3) := by decide +kernel
theorem dX10_lastOf_11 : decode cX10_lastOf 11 = .ok (.ifCond .ne 7, 3) := by decide +kernel
theorem dX10_lastOf_14 : decode cX10_lastOf 14 = .ok (.iconst (-1), 1) := by decide +kernel
theorem dX10_lastOf_15 : decode cX10_lastOf 15 = .ok (.goto 24, 3) := by decide +kernel
theorem dX10_lastOf_18 : decode cX10_lastOf 18 = .ok (.aload_n 0, 1) := by decide +kernel
theorem dX10_lastOf_19 : decode cX10_lastOf 19 = .ok (.getfield 41, 3) := by decide +kernel
theorem dX10_lastOf_22 : decode cX10_lastOf 22 = .ok (.aload_n 0, 1) := by decide +kernel
theorem dX10_lastOf_23 : decode cX10_lastOf 23 = .ok (.iload_n 1, 1) := by decide +kernel
theorem dX10_lastOf_24 : decode cX10_lastOf 24 = .ok (.iconst 2, 1) := by decide +kernel
theorem dX10_lastOf_25 : decode cX10_lastOf 25 = .ok (.invokevirtual 143, 3) := by decide +kernel
theorem dX10_lastOf_28 : decode cX10_lastOf 28 = .ok (.aload_n 0, 1) := by decide +kernel
theorem dX10_lastOf_29 : decode cX10_lastOf 29 = .ok (.getfield 121, 3) := by decide +kernel
theorem dX10_lastOf_32 : decode cX10_lastOf 32 = .ok (.iconst 1, 1) := by decide +kernel
theorem dX10_lastOf_33 : decode cX10_lastOf 33 = .ok (.isub, 1) := by decide +kernel
theorem dX10_lastOf_34 : decode cX10_lastOf 34 = .ok (.imul, 1) := by decide +kernel
theorem dX10_lastOf_35 : decode cX10_lastOf 35 = .ok (.bipush 100, 2) := by decide +kernel
theorem dX10_lastOf_37 : decode cX10_lastOf 37 = .ok (.idiv, 1) := by decide +kernel
theorem dX10_lastOf_38 : decode cX10_lastOf 38 = .ok (.iaload, 1) := by decide +kernel
theorem dX10_lastOf_39 : decode cX10_lastOf 39 = .ok (.ireturn, 1) := by decide +kernel
theorem dX10_applyNow_0 : decode cX10_applyNow 0 = .ok (.iconst 0, 1) := by decide +kernel
theorem dX10_applyNow_1 : decode cX10_applyNow 1 = .ok (.istore_n 2, 1) := by decide +kernel
theorem dX10_applyNow_2 : decode cX10_applyNow 2 = .ok (.iconst 0, 1) := by decide +kernel
theorem dX10_applyNow_3 : decode cX10_applyNow 3 = .ok (.istore_n 3, 1) := by decide +kernel
theorem dX10_applyNow_4 : decode cX10_applyNow 4 = .ok (.iload_n 3, 1) := by decide +kernel
theorem dX10_applyNow_5 : decode cX10_applyNow 5 = .ok (.aload_n 0, 1) := by decide +kernel
theorem dX10_applyNow_6 : decode cX10_applyNow 6 = .ok (.getfield 7, 3) := by decide +kernel
theorem dX10_applyNow_9 : decode cX10_applyNow 9 = .ok (.iconst 1, 1) := by decide +kernel
theorem dX10_applyNow_10 : decode cX10_applyNow 10 = .ok (.iaload, 1) := by decide +kernel
theorem dX10_applyNow_11 : decode cX10_applyNow 11 = .ok (.if_icmp .ge 69, 3) := by decide +kernel
theorem dX10_applyNow_14 : decode cX10_applyNow 14 = .ok (.iconst 0, 1) := by decide +kernel
theorem dX10_applyNow_15 : decode cX10_applyNow 15 = .ok (.istore 4, 2) := by decide +kernel
theorem dX10_applyNow_17 : decode cX10_applyNow 17 = .ok (.iload 4, 2) := by decide +kernel
theorem dX10_applyNow_19 : decode cX10_applyNow 19 = .ok (.aload_n 0, 1) := by decide +kernel
theorem dX10_applyNow_20 : decode cX10_applyNow 20 = .ok (.getfield 7, 3) := by decide +kernel
theorem dX10_applyNow_23 : decode cX10_applyNow 23 = .ok (.iconst 0, 1) := by decide +kernel
theorem dX10_applyNow_24 : decode cX10_applyNow 24 = .ok (.iaload, 1) := by decide +kernel
theorem dX10_applyNow_25 : decode cX10_applyNow 25 = .ok (.if_icmp .ge 49, 3) := by decide +kernel
theorem dX10_applyNow_28 : decode cX10_applyNow 28 = .ok (.aload_n 0, 1) := by decide +kernel
theorem dX10_applyNow_29 : decode cX10_applyNow 29 = .ok (.getfield 44, 3) := by decide +kernel
theorem dX10_applyNow_32 : decode cX10_applyNow 32 = .ok (.aload_n 0, 1) := by decide +kernel
theorem dX10_applyNow_33 : decode cX10_applyNow 33 = .ok (.iload 4, 2) := by decide +kernel
theorem dX10_applyNow_35 : decode cX10_applyNow 35 = .ok (.iload_n 3, 1) := by decide +kernel
theorem dX10_applyNow_36 : decode cX10_applyNow 36 = .ok (.invokevirtual 54, 3) := by decide +kernel
theorem dX10_applyNow_39 : decode cX10_applyNow 39 = .ok (.aload_n 0, 1) := by decide +kernel
theorem dX10_applyNow_40 : decode cX10_applyNow 40 = .ok (.iload 4, 2) := by decide +kernel
theorem dX10_applyNow_42 : decode cX10_applyNow 42 = .ok (.iload_n 3, 1) := by decide +kernel
theorem dX10_applyNow_43 : decode cX10_applyNow 43 = .ok (.invokevirtual 62, 3) := by decide +kernel
theorem dX10_applyNow_46 : decode cX10_applyNow 46 = .ok (.ifCond .eq 13, 3) := by decide +kernel
theorem dX10_applyNow_49 : decode cX10_applyNow 49 = .ok (.aload_n 0, 1) := by decide +kernel
theorem dX10_applyNow_50 : decode cX10_applyNow 50 = .ok (.iload 4, 2) := by decide +kernel
theorem dX10_applyNow_52 : decode cX10_applyNow 52 = .ok (.iload_n 3, 1) := by decide +kernel
theorem dX10_applyNow_53 : decode cX10_applyNow 53 = .ok (.invokevirtual 137, 3) := by decide +kernel
theorem dX10_applyNow_56 : decode cX10_applyNow 56 = .ok (.goto 11, 3) := by decide +kernel
theorem dX10_applyNow_59 : decode cX10_applyNow 59 = .ok (.aload_n 0, 1) := by decide +kernel
theorem dX10_applyNow_60 : decode cX10_applyNow 60 = .ok (.iload_n 1, 1) := by decide +kernel
theorem dX10_applyNow_61 : decode cX10_applyNow 61 = .ok (.iload 4, 2) := by decide +kernel
theorem dX10_applyNow_63 : decode cX10_applyNow 63 = .ok (.iload_n 3, 1) := by decide +kernel
theorem dX10_applyNow_64 : decode cX10_applyNow 64 = .ok (.invokevirtual 157, 3) := by decide +kernel
theorem dX10_applyNow_67 : decode cX10_applyNow 67 = .ok (.iastore, 1) := by decide +kernel
theorem dX10_applyNow_68 : decode cX10_applyNow 68 = .ok (.iinc 4 1, 3) := by decide +kernel
theorem dX10_applyNow_71 : decode cX10_applyNow 71 = .ok (.goto (-54), 3) := by decide +kernel
theorem dX10_applyNow_74 : decode cX10_applyNow 74 = .ok (.iinc 3 1, 3) := by decide +kernel
theorem dX10_applyNow_77 : decode cX10_applyNow 77 = .ok (.goto (-73), 3) := by decide +kernel
theorem dX10_applyNow_80 : decode cX10_applyNow 80 = .ok (.iconst 0, 1) := by decide +kernel
theorem dX10_applyNow_81 : decode cX10_applyNow 81 = .ok (.istore_n 3, 1) := by decide +kernel
theorem dX10_applyNow_82 : decode cX10_applyNow 82 = .ok (.iload_n 3, 1) := by decide +kernel
theorem dX10_applyNow_83 : decode cX10_applyNow 83 = .ok (.aload_n 0, 1) := by decide +kernel
theorem dX10_applyNow_84 : decode cX10_applyNow 84 = .ok (.getfield 7, 3) := by decide +kernel
theorem dX10_applyNow_87 : decode cX10_applyNow 87 = .ok (.iconst 1, 1) := by decide +kernel
theorem dX10_applyNow_88 : decode cX10_applyNow 88 = .ok (.iaload, 1) := by decide +kernel
theorem dX10_applyNow_89 : decode cX10_applyNow 89 = .ok (.if_icmp .ge 78, 3) := by decide +kernel
theorem dX10_applyNow_92 : decode cX10_applyNow 92 = .ok (.iconst 0, 1) := by decide +kernel
theorem dX10_applyNow_93 : decode cX10_applyNow 93 = .ok (.istore 4, 2) := by decide +kernel
theorem dX10_applyNow_95 : decode cX10_applyNow 95 = .ok (.iload 4, 2) := by decide +kernel
theorem dX10_applyNow_97 : decode cX10_applyNow 97 = .ok (.aload_n 0, 1) := by decide +kernel
theorem dX10_applyNow_98 : decode cX10_applyNow 98 = .ok (.getfield 7, 3) := by decide +kernel
theorem dX10_applyNow_101 : decode cX10_applyNow 101 = .ok (.iconst 0, 1) := by decide +kernel
theorem dX10_applyNow_102 : decode cX10_applyNow 102 = .ok (.iaload, 1) := by decide +kernel
theorem dX10_applyNow_103 : decode cX10_applyNow 103 = .ok (.if_icmp .ge 58, 3) := by decide +kernel
theorem dX10_applyNow_106 : decode cX10_applyNow 106 = .ok (.iload_n 2, 1) := by decide +kernel
theorem dX10_applyNow_107 : decode cX10_applyNow 107 = .ok (.aload_n 0, 1) := by decide +kernel
theorem dX10_applyNow_108 : decode cX10_applyNow 108 = .ok (.getfield 44, 3) := by decide +kernel
theorem dX10_applyNow_111 : decode cX10_applyNow 111 = .ok (.aload_n 0, 1) := by decide +kernel
theorem dX10_applyNow_112 : decode cX10_applyNow 112 = .ok (.iload 4, 2) := by decide +kernel
theorem dX10_applyNow_114 : decode cX10_applyNow 114 = .ok (.iload_n 3, 1) := by decide +kernel
theorem dX10_applyNow_115 : decode cX10_applyNow 115 = .ok (.invokevirtual 54, 3) := by decide +kernel
theorem dX10_applyNow_118 : decode cX10_applyNow 118 = .ok (.iaload, 1) := by decide +kernel
theorem dX10_applyNow_119 : decode cX10_applyNow 119 = .ok (.aload_n 0, 1) := by decide +kernel
theorem dX10_applyNow_120 : decode cX10_applyNow 120 = .ok (.iload 4, 2) := by decide +kernel
theorem dX10_applyNow_122 : decode cX10_applyNow 122 = .ok (.iload_n 3, 1) := by decide +kernel
theorem dX10_applyNow_123 : decode cX10_applyNow 123 = .ok (.invokevirtual 137, 3) := by decide +kernel
theorem dX10_applyNow_126 : decode cX10_applyNow 126 = .ok (.if_icmp .eq 7, 3) := by decide +kernel
theorem dX10_applyNow_129 : decode cX10_applyNow 129 = .ok (.iconst 1, 1) := by decide +kernel
theorem dX10_applyNow_130 : decode cX10_applyNow 130 = .ok (.goto 4, 3) := by decide +kernel
theorem dX10_applyNow_133 : decode cX10_applyNow 133 = .ok (.iconst 0, 1) := by decide +kernel
theorem dX10_applyNow_134 : decode cX10_applyNow 134 = .ok (.iadd, 1) := by decide +kernel
theorem dX10_applyNow_135 : decode cX10_applyNow 135 = .ok (.istore_n 2, 1) := by decide +kernel
theorem dX10_applyNow_136 : decode cX10_applyNow 136 = .ok (.aload_n 0, 1) := by decide +kernel
theorem dX10_applyNow_137 : decode cX10_applyNow 137 = .ok (.iload 4, 2) := by decide +kernel
theorem dX10_applyNow_139 : decode cX10_applyNow 139 = .ok (.iload_n 3, 1) := by decide +kernel
theorem dX10_applyNow_140 : decode cX10_applyNow 140 = .ok (.aload_n 0, 1) := by decide +kernel
theorem dX10_applyNow_141 : decode cX10_applyNow 141 = .ok (.getfield 44, 3) := by decide +kernel
theorem dX10_applyNow_144 : decode cX10_applyNow 144 = .ok (.aload_n 0, 1) := by decide +kernel
theorem dX10_applyNow_145 : decode cX10_applyNow 145 = .ok (.iload 4, 2) := by decide +kernel
theorem dX10_applyNow_147 : decode cX10_applyNow 147 = .ok (.iload_n 3, 1) := by decide +kernel
theorem dX10_applyNow_148 : decode cX10_applyNow 148 = .ok (.invokevirtual 54, 3) := by decide +kernel
theorem dX10_applyNow_151 : decode cX10_applyNow 151 = .ok (.iaload, 1) := by decide +kernel
theorem dX10_applyNow_152 : decode cX10_applyNow 152 = .ok (.invokevirtual 160, 3) := by decide +kernel
theorem dX10_applyNow_155 : decode cX10_applyNow 155 = .ok (.iinc 4 1, 3) := by decide +kernel
theorem dX10_applyNow_158 : decode cX10_applyNow 158 = .ok (.goto (-63), 3) := by decide +kernel
theorem dX10_applyNow_161 : decode cX10_applyNow 161 = .ok (.iinc 3 1, 3) := by decide +kernel
theorem dX10_applyNow_164 : decode cX10_applyNow 164 = .ok (.goto (-82), 3) := by decide +kernel
theorem dX10_applyNow_167 : decode cX10_applyNow 167 = .ok (.iload_n 2, 1) := by decide +kernel
theorem dX10_applyNow_168 : decode cX10_applyNow 168 = .ok (.ireturn, 1) := by decide +kernel
theorem dX10_masked_0 : decode cX10_masked 0 = .ok (.iconst 0, 1) := by decide +kernel
theorem dX10_masked_1 : decode cX10_masked 1 = .ok (.istore_n 1, 1) := by decide +kernel
theorem dX10_masked_2 : decode cX10_masked 2 = .ok (.iconst 0, 1) := by decide +kernel
theorem dX10_masked_3 : decode cX10_masked 3 = .ok (.istore_n 2, 1) := by decide +kernel
theorem dX10_masked_4 : decode cX10_masked 4 = .ok (.iload_n 2, 1) := by decide +kernel
theorem dX10_masked_5 : decode cX10_masked 5 = .ok (.aload_n 0, 1) := by decide +kernel
theorem dX10_masked_6 : decode cX10_masked 6 = .ok (.getfield 7, 3) := by decide +kernel
theorem dX10_masked_9 : decode cX10_masked 9 = .ok (.iconst 1, 1) := by decide +kernel
theorem dX10_masked_10 : decode cX10_masked 10 = .ok (.iaload, 1) := by decide +kernel
theorem dX10_masked_11 : decode cX10_masked 11 = .ok (.if_icmp .ge 44, 3) := by decide +kernel
theorem dX10_masked_14 : decode cX10_masked 14 = .ok (.iconst 0, 1) := by decide +kernel
theorem dX10_masked_15 : decode cX10_masked 15 = .ok (.istore_n 3, 1) := by decide +kernel
theorem dX10_masked_16 : decode cX10_masked 16 = .ok (.iload_n 3, 1) := by decide +kernel
theorem dX10_masked_17 : decode cX10_masked 17 = .ok (.aload_n 0, 1) := by decide +kernel
theorem dX10_masked_18 : decode cX10_masked 18 = .ok (.getfield 7, 3) := by decide +kernel
theorem dX10_masked_21 : decode cX10_masked 21 = .ok (.iconst 0, 1) := by decide +kernel
theorem dX10_masked_22 : decode cX10_masked 22 = .ok (.iaload, 1) := by decide +kernel
theorem dX10_masked_23 : decode cX10_masked 23 = .ok (.if_icmp .ge 26, 3) := by decide +kernel
theorem dX10_masked_26 : decode cX10_masked 26 = .ok (.iload_n 1, 1) := by decide +kernel
theorem dX10_masked_27 : decode cX10_masked 27 = .ok (.aload_n 0, 1) := by decide +kernel
theorem dX10_masked_28 : decode cX10_masked 28 = .ok (.iload_n 3, 1) := by decide +kernel
theorem dX10_masked_29 : decode cX10_masked 29 = .ok (.iload_n 2, 1) := by decide +kernel
theorem dX10_masked_30 : decode cX10_masked 30 = .ok (.invokevirtual 62, 3) := by decide +kernel
theorem dX10_masked_33 : decode cX10_masked 33 = .ok (.ifCond .eq 7, 3) := by decide +kernel
theorem dX10_masked_36 : decode cX10_masked 36 = .ok (.iconst 1, 1) := by decide +kernel
theorem dX10_masked_37 : decode cX10_masked 37 = .ok (.goto 4, 3) := by decide +kernel
theorem dX10_masked_40 : decode cX10_masked 40 = .ok (.iconst 0, 1) := by decide +kernel
theorem dX10_masked_41 : decode cX10_masked 41 = .ok (.iadd, 1) := by decide +kernel
theorem dX10_masked_42 : decode cX10_masked 42 = .ok (.istore_n 1, 1) := by decide +kernel
theorem dX10_masked_43 : decode cX10_masked 43 = .ok (.iinc 3 1, 3) := by decide +kernel
theorem dX10_masked_46 : decode cX10_masked 46 = .ok (.goto (-30), 3) := by decide +kernel
theorem dX10_masked_49 : decode cX10_masked 49 = .ok (.iinc 2 1, 3) := by decide +kernel
theorem dX10_masked_52 : decode cX10_masked 52 = .ok (.goto (-48), 3) := by decide +kernel
theorem dX10_masked_55 : decode cX10_masked 55 = .ok (.iload_n 1, 1) := by decide +kernel
theorem dX10_masked_56 : decode cX10_masked 56 = .ok (.ireturn, 1) := by decide +kernel
theorem dX10_ofGreys_0 : decode cX10_ofGreys 0 = .ok (.iconst (-1), 1) := by decide +kernel
theorem dX10_ofGreys_1 : decode cX10_ofGreys 1 = .ok (.istore_n 2, 1) := by decide +kernel
theorem dX10_ofGreys_2 : decode cX10_ofGreys 2 = .ok (.iconst (-1), 1) := by decide +kernel
theorem dX10_ofGreys_3 : decode cX10_ofGreys 3 = .ok (.istore_n 3, 1) := by decide +kernel
theorem dX10_ofGreys_4 : decode cX10_ofGreys 4 = .ok (.iconst 0, 1) := by decide +kernel
theorem dX10_ofGreys_5 : decode cX10_ofGreys 5 = .ok (.istore 4, 2) := by decide +kernel
theorem dX10_ofGreys_7 : decode cX10_ofGreys 7 = .ok (.iconst 0, 1) := by decide +kernel
theorem dX10_ofGreys_8 : decode cX10_ofGreys 8 = .ok (.istore 5, 2) := by decide +kernel
theorem dX10_ofGreys_10 : decode cX10_ofGreys 10 = .ok (.iload 5, 2) := by decide +kernel
theorem dX10_ofGreys_12 : decode cX10_ofGreys 12 = .ok (.aload_n 0, 1) := by decide +kernel
theorem dX10_ofGreys_13 : decode cX10_ofGreys 13 = .ok (.getfield 7, 3) := by decide +kernel
theorem dX10_ofGreys_16 : decode cX10_ofGreys 16 = .ok (.iconst 1, 1) := by decide +kernel
theorem dX10_ofGreys_17 : decode cX10_ofGreys 17 = .ok (.iaload, 1) := by decide +kernel
theorem dX10_ofGreys_18 : decode cX10_ofGreys 18 = .ok (.if_icmp .ge 87, 3) := by decide +kernel
theorem dX10_ofGreys_21 : decode cX10_ofGreys 21 = .ok (.iconst 0, 1) := by decide +kernel
theorem dX10_ofGreys_22 : decode cX10_ofGreys 22 = .ok (.istore 6, 2) := by decide +kernel
theorem dX10_ofGreys_24 : decode cX10_ofGreys 24 = .ok (.iload 6, 2) := by decide +kernel
theorem dX10_ofGreys_26 : decode cX10_ofGreys 26 = .ok (.aload_n 0, 1) := by decide +kernel
theorem dX10_ofGreys_27 : decode cX10_ofGreys 27 = .ok (.getfield 7, 3) := by decide +kernel
theorem dX10_ofGreys_30 : decode cX10_ofGreys 30 = .ok (.iconst 0, 1) := by decide +kernel
theorem dX10_ofGreys_31 : decode cX10_ofGreys 31 = .ok (.iaload, 1) := by decide +kernel
theorem dX10_ofGreys_32 : decode cX10_ofGreys 32 = .ok (.if_icmp .ge 67, 3) := by decide +kernel
theorem dX10_ofGreys_35 : decode cX10_ofGreys 35 = .ok (.aload_n 0, 1) := by decide +kernel
theorem dX10_ofGreys_36 : decode cX10_ofGreys 36 = .ok (.iload 6, 2) := by decide +kernel
theorem dX10_ofGreys_38 : decode cX10_ofGreys 38 = .ok (.iload 5, 2) := by decide +kernel
theorem dX10_ofGreys_40 : decode cX10_ofGreys 40 = .ok (.invokevirtual 62, 3) := by decide +kernel
theorem dX10_ofGreys_43 : decode cX10_ofGreys 43 = .ok (.ifCond .ne 50, 3) := by decide +kernel
theorem dX10_ofGreys_46 : decode cX10_ofGreys 46 = .ok (.aload_n 0, 1) := by decide +kernel
theorem dX10_ofGreys_47 : decode cX10_ofGreys 47 = .ok (.iload 6, 2) := by decide +kernel
theorem dX10_ofGreys_49 : decode cX10_ofGreys 49 = .ok (.iload 5, 2) := by decide +kernel
theorem dX10_ofGreys_51 : decode cX10_ofGreys 51 = .ok (.invokevirtual 137, 3) := by decide +kernel
theorem dX10_ofGreys_54 : decode cX10_ofGreys 54 = .ok (.istore 7, 2) := by decide +kernel
theorem dX10_ofGreys_56 : decode cX10_ofGreys 56 = .ok (.iload_n 2, 1) := by decide +kernel
theorem dX10_ofGreys_57 : decode cX10_ofGreys 57 = .ok (.ifCond .lt 9, 3) := by decide +kernel
theorem dX10_ofGreys_60 : decode cX10_ofGreys 60 = .ok (.iload 7, 2) := by decide +kernel
theorem dX10_ofGreys_62 : decode cX10_ofGreys 62 = .ok (.iload_n 2, 1) := by decide +kernel
theorem dX10_ofGreys_63 : decode cX10_ofGreys 63 = .ok (.if_icmp .ge 8, 3) := by decide +kernel
theorem dX10_ofGreys_66 : decode cX10_ofGreys 66 = .ok (.iload 7, 2) := by decide +kernel
theorem dX10_ofGreys_68 : decode cX10_ofGreys 68 = .ok (.goto 4, 3) := by decide +kernel
theorem dX10_ofGreys_71 : decode cX10_ofGreys 71 = .ok (.iload_n 2, 1) := by decide +kernel
theorem dX10_ofGreys_72 : decode cX10_ofGreys 72 = .ok (.istore_n 2, 1) := by decide +kernel
theorem dX10_ofGreys_73 : decode cX10_ofGreys 73 = .ok (.iload 7, 2) := by decide +kernel
theorem dX10_ofGreys_75 : decode cX10_ofGreys 75 = .ok (.iload_n 3, 1) := by decide +kernel
theorem dX10_ofGreys_76 : decode cX10_ofGreys 76 = .ok (.if_icmp .le 8, 3) := by decide +kernel
theorem dX10_ofGreys_79 : decode cX10_ofGreys 79 = .ok (.iload 7, 2) := by decide +kernel
theorem dX10_ofGreys_81 : decode cX10_ofGreys 81 = .ok (.goto 4, 3) := by decide +kernel
theorem dX10_ofGreys_84 : decode cX10_ofGreys 84 = .ok (.iload_n 3, 1) := by decide +kernel
theorem dX10_ofGreys_85 : decode cX10_ofGreys 85 = .ok (.istore_n 3, 1) := by decide +kernel
theorem dX10_ofGreys_86 : decode cX10_ofGreys 86 = .ok (.iload 4, 2) := by decide +kernel
theorem dX10_ofGreys_88 : decode cX10_ofGreys 88 = .ok (.iload 7, 2) := by decide +kernel
theorem dX10_ofGreys_90 : decode cX10_ofGreys 90 = .ok (.iadd, 1) := by decide +kernel
theorem dX10_ofGreys_91 : decode cX10_ofGreys 91 = .ok (.istore 4, 2) := by decide +kernel
theorem dX10_ofGreys_93 : decode cX10_ofGreys 93 = .ok (.iinc 6 1, 3) := by decide +kernel
theorem dX10_ofGreys_96 : decode cX10_ofGreys 96 = .ok (.goto (-72), 3) := by decide +kernel
theorem dX10_ofGreys_99 : decode cX10_ofGreys 99 = .ok (.iinc 5 1, 3) := by decide +kernel
theorem dX10_ofGreys_102 : decode cX10_ofGreys 102 = .ok (.goto (-92), 3) := by decide +kernel
theorem dX10_ofGreys_105 : decode cX10_ofGreys 105 = .ok (.iload_n 1, 1) := by decide +kernel
theorem dX10_ofGreys_106 : decode cX10_ofGreys 106 = .ok (.iconst 3, 1) := by decide +kernel
theorem dX10_ofGreys_107 : decode cX10_ofGreys 107 = .ok (.if_icmp .ne 7, 3) := by decide +kernel
theorem dX10_ofGreys_110 : decode cX10_ofGreys 110 = .ok (.iload_n 2, 1) := by decide +kernel
theorem dX10_ofGreys_111 : decode cX10_ofGreys 111 = .ok (.goto 14, 3) := by decide +kernel
theorem dX10_ofGreys_114 : decode cX10_ofGreys 114 = .ok (.iload_n 1, 1) := by decide +kernel
theorem dX10_ofGreys_115 : decode cX10_ofGreys 115 = .ok (.iconst 4, 1) := by decide +kernel
theorem dX10_ofGreys_116 : decode cX10_ofGreys 116 = .ok (.if_icmp .ne 7, 3) := by decide +kernel
theorem dX10_ofGreys_119 : decode cX10_ofGreys 119 = .ok (.iload_n 3, 1) := by decide +kernel
theorem dX10_ofGreys_120 : decode cX10_ofGreys 120 = .ok (.goto 5, 3) := by decide +kernel
theorem dX10_ofGreys_123 : decode cX10_ofGreys 123 = .ok (.iload 4, 2) := by decide +kernel
theorem dX10_ofGreys_125 : decode cX10_ofGreys 125 = .ok (.ireturn, 1) := by decide +kernel
theorem dX10_wrong_0 : decode cX10_wrong 0 = .ok (.iconst 0, 1) := by decide +kernel
theorem dX10_wrong_1 : decode cX10_wrong 1 = .ok (.istore_n 1, 1) := by decide +kernel
theorem dX10_wrong_2 : decode cX10_wrong 2 = .ok (.iload_n 1, 1) := by decide +kernel
theorem dX10_wrong_3 : decode cX10_wrong 3 = .ok (.aload_n 0, 1) := by decide +kernel
theorem dX10_wrong_4 : decode cX10_wrong 4 = .ok (.getfield 163, 3) := by decide +kernel
theorem dX10_wrong_7 : decode cX10_wrong 7 = .ok (.if_icmp .ge 55, 3) := by decide +kernel
theorem dX10_wrong_10 : decode cX10_wrong 10 = .ok (.aload_n 0, 1) := by decide +kernel
theorem dX10_wrong_11 : decode cX10_wrong 11 = .ok (.aload_n 0, 1) := by decide +kernel
theorem dX10_wrong_12 : decode cX10_wrong 12 = .ok (.getfield 32, 3) := by decide +kernel
theorem dX10_wrong_15 : decode cX10_wrong 15 = .ok (.iload_n 1, 1) := by decide +kernel
theorem dX10_wrong_16 : decode cX10_wrong 16 = .ok (.iaload, 1) := by decide +kernel
theorem dX10_wrong_17 : decode cX10_wrong 17 = .ok (.aload_n 0, 1) := by decide +kernel
theorem dX10_wrong_18 : decode cX10_wrong 18 = .ok (.getfield 35, 3) := by decide +kernel
theorem dX10_wrong_21 : decode cX10_wrong 21 = .ok (.iload_n 1, 1) := by decide +kernel
theorem dX10_wrong_22 : decode cX10_wrong 22 = .ok (.iaload, 1) := by decide +kernel
theorem dX10_wrong_23 : decode cX10_wrong 23 = .ok (.invokevirtual 140, 3) := by decide +kernel
theorem dX10_wrong_26 : decode cX10_wrong 26 = .ok (.ifCond .eq 28, 3) := by decide +kernel
theorem dX10_wrong_29 : decode cX10_wrong 29 = .ok (.aload_n 0, 1) := by decide +kernel
theorem dX10_wrong_30 : decode cX10_wrong 30 = .ok (.aload_n 0, 1) := by decide +kernel
theorem dX10_wrong_31 : decode cX10_wrong 31 = .ok (.getfield 32, 3) := by decide +kernel
theorem dX10_wrong_34 : decode cX10_wrong 34 = .ok (.iload_n 1, 1) := by decide +kernel
theorem dX10_wrong_35 : decode cX10_wrong 35 = .ok (.iaload, 1) := by decide +kernel
theorem dX10_wrong_36 : decode cX10_wrong 36 = .ok (.aload_n 0, 1) := by decide +kernel
theorem dX10_wrong_37 : decode cX10_wrong 37 = .ok (.getfield 35, 3) := by decide +kernel
theorem dX10_wrong_40 : decode cX10_wrong 40 = .ok (.iload_n 1, 1) := by decide +kernel
theorem dX10_wrong_41 : decode cX10_wrong 41 = .ok (.iaload, 1) := by decide +kernel
theorem dX10_wrong_42 : decode cX10_wrong 42 = .ok (.invokevirtual 137, 3) := by decide +kernel
theorem dX10_wrong_45 : decode cX10_wrong 45 = .ok (.aload_n 0, 1) := by decide +kernel
theorem dX10_wrong_46 : decode cX10_wrong 46 = .ok (.getfield 38, 3) := by decide +kernel
theorem dX10_wrong_49 : decode cX10_wrong 49 = .ok (.iload_n 1, 1) := by decide +kernel
theorem dX10_wrong_50 : decode cX10_wrong 50 = .ok (.iaload, 1) := by decide +kernel
theorem dX10_wrong_51 : decode cX10_wrong 51 = .ok (.if_icmp .eq 5, 3) := by decide +kernel
theorem dX10_wrong_54 : decode cX10_wrong 54 = .ok (.iload_n 1, 1) := by decide +kernel
theorem dX10_wrong_55 : decode cX10_wrong 55 = .ok (.ireturn, 1) := by decide +kernel
theorem dX10_wrong_56 : decode cX10_wrong 56 = .ok (.iinc 1 1, 3) := by decide +kernel
theorem dX10_wrong_59 : decode cX10_wrong 59 = .ok (.goto (-57), 3) := by decide +kernel
theorem dX10_wrong_62 : decode cX10_wrong 62 = .ok (.iconst (-1), 1) := by decide +kernel
theorem dX10_wrong_63 : decode cX10_wrong 63 = .ok (.ireturn, 1) := by decide +kernel
theorem dX10_told_0 : decode cX10_told 0 = .ok (.iload_n 1, 1) := by decide +kernel
theorem dX10_told_1 : decode cX10_told 1 = .ok (.tableswitch 120 0 11 #[63, 70, 77, 82, 82, 82, 88, 93, 100, 105, 110, 115], 63) := by decide +kernel
theorem dX10_told_64 : decode cX10_told 64 = .ok (.aload_n 0, 1) := by decide +kernel
theorem dX10_told_65 : decode cX10_told 65 = .ok (.getfield 7, 3) := by decide +kernel
theorem dX10_told_68 : decode cX10_told 68 = .ok (.iconst 0, 1) := by decide +kernel
theorem dX10_told_69 : decode cX10_told 69 = .ok (.iaload, 1) := by decide +kernel
theorem dX10_told_70 : decode cX10_told 70 = .ok (.ireturn, 1) := by decide +kernel
theorem dX10_told_71 : decode cX10_told 71 = .ok (.aload_n 0, 1) := by decide +kernel
theorem dX10_told_72 : decode cX10_told 72 = .ok (.getfield 7, 3) := by decide +kernel
theorem dX10_told_75 : decode cX10_told 75 = .ok (.iconst 1, 1) := by decide +kernel
theorem dX10_told_76 : decode cX10_told 76 = .ok (.iaload, 1) := by decide +kernel
theorem dX10_told_77 : decode cX10_told 77 = .ok (.ireturn, 1) := by decide +kernel
theorem dX10_told_78 : decode cX10_told 78 = .ok (.aload_n 0, 1) := by decide +kernel
theorem dX10_told_79 : decode cX10_told 79 = .ok (.invokevirtual 166, 3) := by decide +kernel
theorem dX10_told_82 : decode cX10_told 82 = .ok (.ireturn, 1) := by decide +kernel
theorem dX10_told_83 : decode cX10_told 83 = .ok (.aload_n 0, 1) := by decide +kernel
theorem dX10_told_84 : decode cX10_told 84 = .ok (.iload_n 1, 1) := by decide +kernel
theorem dX10_told_85 : decode cX10_told 85 = .ok (.invokevirtual 169, 3) := by decide +kernel
theorem dX10_told_88 : decode cX10_told 88 = .ok (.ireturn, 1) := by decide +kernel
theorem dX10_told_89 : decode cX10_told 89 = .ok (.aload_n 0, 1) := by decide +kernel
theorem dX10_told_90 : decode cX10_told 90 = .ok (.getfield 98, 3) := by decide +kernel
theorem dX10_told_93 : decode cX10_told 93 = .ok (.ireturn, 1) := by decide +kernel
theorem dX10_told_94 : decode cX10_told 94 = .ok (.aload_n 0, 1) := by decide +kernel
theorem dX10_told_95 : decode cX10_told 95 = .ok (.getfield 20, 3) := by decide +kernel
theorem dX10_told_98 : decode cX10_told 98 = .ok (.iconst 0, 1) := by decide +kernel
theorem dX10_told_99 : decode cX10_told 99 = .ok (.iaload, 1) := by decide +kernel
theorem dX10_told_100 : decode cX10_told 100 = .ok (.ireturn, 1) := by decide +kernel
theorem dX10_told_101 : decode cX10_told 101 = .ok (.aload_n 0, 1) := by decide +kernel
theorem dX10_told_102 : decode cX10_told 102 = .ok (.getfield 127, 3) := by decide +kernel
theorem dX10_told_105 : decode cX10_told 105 = .ok (.ireturn, 1) := by decide +kernel
theorem dX10_told_106 : decode cX10_told 106 = .ok (.aload_n 0, 1) := by decide +kernel
theorem dX10_told_107 : decode cX10_told 107 = .ok (.getfield 163, 3) := by decide +kernel
theorem dX10_told_110 : decode cX10_told 110 = .ok (.ireturn, 1) := by decide +kernel
theorem dX10_told_111 : decode cX10_told 111 = .ok (.aload_n 0, 1) := by decide +kernel
theorem dX10_told_112 : decode cX10_told 112 = .ok (.invokevirtual 172, 3) := by decide +kernel
theorem dX10_told_115 : decode cX10_told 115 = .ok (.ireturn, 1) := by decide +kernel
theorem dX10_told_116 : decode cX10_told 116 = .ok (.aload_n 0, 1) := by decide +kernel
theorem dX10_told_117 : decode cX10_told 117 = .ok (.getfield 51, 3) := by decide +kernel
theorem dX10_told_120 : decode cX10_told 120 = .ok (.ireturn, 1) := by decide +kernel
theorem dX10_told_121 : decode cX10_told 121 = .ok (.ldc 110, 2) := by decide +kernel
theorem dX10_told_123 : decode cX10_told 123 = .ok (.ireturn, 1) := by decide +kernel
theorem dX10_at_0 : decode cX10_at 0 = .ok (.aload_n 0, 1) := by decide +kernel
theorem dX10_at_1 : decode cX10_at 1 = .ok (.iload_n 1, 1) := by decide +kernel
theorem dX10_at_2 : decode cX10_at 2 = .ok (.iload_n 2, 1) := by decide +kernel
theorem dX10_at_3 : decode cX10_at 3 = .ok (.invokevirtual 140, 3) := by decide +kernel
theorem dX10_at_6 : decode cX10_at 6 = .ok (.ifCond .ne 6, 3) := by decide +kernel
theorem dX10_at_9 : decode cX10_at 9 = .ok (.ldc 175, 2) := by decide +kernel
theorem dX10_at_11 : decode cX10_at 11 = .ok (.ireturn, 1) := by decide +kernel
theorem dX10_at_12 : decode cX10_at 12 = .ok (.iload_n 3, 1) := by decide +kernel
theorem dX10_at_13 : decode cX10_at 13 = .ok (.ifCond .ne 12, 3) := by decide +kernel
theorem dX10_at_16 : decode cX10_at 16 = .ok (.aload_n 0, 1) := by decide +kernel
theorem dX10_at_17 : decode cX10_at 17 = .ok (.iload_n 1, 1) := by decide +kernel
theorem dX10_at_18 : decode cX10_at 18 = .ok (.iload_n 2, 1) := by decide +kernel
theorem dX10_at_19 : decode cX10_at 19 = .ok (.invokevirtual 137, 3) := by decide +kernel
theorem dX10_at_22 : decode cX10_at 22 = .ok (.goto 27, 3) := by decide +kernel
theorem dX10_at_25 : decode cX10_at 25 = .ok (.iload_n 3, 1) := by decide +kernel
theorem dX10_at_26 : decode cX10_at 26 = .ok (.iconst 1, 1) := by decide +kernel
theorem dX10_at_27 : decode cX10_at 27 = .ok (.if_icmp .ne 20, 3) := by decide +kernel
theorem dX10_at_30 : decode cX10_at 30 = .ok (.aload_n 0, 1) := by decide +kernel
theorem dX10_at_31 : decode cX10_at 31 = .ok (.iload_n 1, 1) := by decide +kernel
theorem dX10_at_32 : decode cX10_at 32 = .ok (.iload_n 2, 1) := by decide +kernel
theorem dX10_at_33 : decode cX10_at 33 = .ok (.invokevirtual 62, 3) := by decide +kernel
theorem dX10_at_36 : decode cX10_at 36 = .ok (.ifCond .eq 7, 3) := by decide +kernel
theorem dX10_at_39 : decode cX10_at 39 = .ok (.iconst 1, 1) := by decide +kernel
theorem dX10_at_40 : decode cX10_at 40 = .ok (.goto 9, 3) := by decide +kernel
theorem dX10_at_43 : decode cX10_at 43 = .ok (.iconst 0, 1) := by decide +kernel
theorem dX10_at_44 : decode cX10_at 44 = .ok (.goto 5, 3) := by decide +kernel
theorem dX10_at_47 : decode cX10_at 47 = .ok (.ldc 110, 2) := by decide +kernel
theorem dX10_at_49 : decode cX10_at 49 = .ok (.ireturn, 1) := by decide +kernel
theorem dX10_tally_0 : decode cX10_tally 0 = .ok (.aload_n 0, 1) := by decide +kernel
theorem dX10_tally_1 : decode cX10_tally 1 = .ok (.iload_n 1, 1) := by decide +kernel
theorem dX10_tally_2 : decode cX10_tally 2 = .ok (.iload_n 2, 1) := by decide +kernel
theorem dX10_tally_3 : decode cX10_tally 3 = .ok (.invokevirtual 140, 3) := by decide +kernel
theorem dX10_tally_6 : decode cX10_tally 6 = .ok (.ifCond .eq 13, 3) := by decide +kernel
theorem dX10_tally_9 : decode cX10_tally 9 = .ok (.aload_n 0, 1) := by decide +kernel
theorem dX10_tally_10 : decode cX10_tally 10 = .ok (.iload_n 3, 1) := by decide +kernel
theorem dX10_tally_11 : decode cX10_tally 11 = .ok (.iload 4, 2) := by decide +kernel
theorem dX10_tally_13 : decode cX10_tally 13 = .ok (.invokevirtual 140, 3) := by decide +kernel
theorem dX10_tally_16 : decode cX10_tally 16 = .ok (.ifCond .ne 6, 3) := by decide +kernel
theorem dX10_tally_19 : decode cX10_tally 19 = .ok (.ldc 175, 2) := by decide +kernel
theorem dX10_tally_21 : decode cX10_tally 21 = .ok (.ireturn, 1) := by decide +kernel
theorem dX10_tally_22 : decode cX10_tally 22 = .ok (.iload_n 3, 1) := by decide +kernel
theorem dX10_tally_23 : decode cX10_tally 23 = .ok (.iload_n 1, 1) := by decide +kernel
theorem dX10_tally_24 : decode cX10_tally 24 = .ok (.if_icmp .lt 24, 3) := by decide +kernel
theorem dX10_tally_27 : decode cX10_tally 27 = .ok (.iload 4, 2) := by decide +kernel
theorem dX10_tally_29 : decode cX10_tally 29 = .ok (.iload_n 2, 1) := by decide +kernel
theorem dX10_tally_30 : decode cX10_tally 30 = .ok (.if_icmp .lt 18, 3) := by decide +kernel
theorem dX10_tally_33 : decode cX10_tally 33 = .ok (.iload 5, 2) := by decide +kernel
theorem dX10_tally_35 : decode cX10_tally 35 = .ok (.i2l, 1) := by decide +kernel
theorem dX10_tally_36 : decode cX10_tally 36 = .ok (.ldc2_w 176, 3) := by decide +kernel
theorem dX10_tally_39 : decode cX10_tally 39 = .ok (.ldc2_w 178, 3) := by decide +kernel
theorem dX10_tally_42 : decode cX10_tally 42 = .ok (.invokestatic 58, 3) := by decide +kernel
theorem dX10_tally_45 : decode cX10_tally 45 = .ok (.ifCond .ne 6, 3) := by decide +kernel
theorem dX10_tally_48 : decode cX10_tally 48 = .ok (.ldc 110, 2) := by decide +kernel
theorem dX10_tally_50 : decode cX10_tally 50 = .ok (.ireturn, 1) := by decide +kernel
theorem dX10_tally_51 : decode cX10_tally 51 = .ok (.iconst 0, 1) := by decide +kernel
theorem dX10_tally_52 : decode cX10_tally 52 = .ok (.istore 6, 2) := by decide +kernel
theorem dX10_tally_54 : decode cX10_tally 54 = .ok (.iload_n 2, 1) := by decide +kernel
theorem dX10_tally_55 : decode cX10_tally 55 = .ok (.istore 7, 2) := by decide +kernel
theorem dX10_tally_57 : decode cX10_tally 57 = .ok (.iload 7, 2) := by decide +kernel
theorem dX10_tally_59 : decode cX10_tally 59 = .ok (.iload 4, 2) := by decide +kernel
theorem dX10_tally_61 : decode cX10_tally 61 = .ok (.if_icmp .gt 58, 3) := by decide +kernel
theorem dX10_tally_64 : decode cX10_tally 64 = .ok (.iload_n 1, 1) := by decide +kernel
theorem dX10_tally_65 : decode cX10_tally 65 = .ok (.istore 8, 2) := by decide +kernel
theorem dX10_tally_67 : decode cX10_tally 67 = .ok (.iload 8, 2) := by decide +kernel
theorem dX10_tally_69 : decode cX10_tally 69 = .ok (.iload_n 3, 1) := by decide +kernel
theorem dX10_tally_70 : decode cX10_tally 70 = .ok (.if_icmp .gt 43, 3) := by decide +kernel
theorem dX10_tally_73 : decode cX10_tally 73 = .ok (.iload 6, 2) := by decide +kernel
theorem dX10_tally_75 : decode cX10_tally 75 = .ok (.aload_n 0, 1) := by decide +kernel
theorem dX10_tally_76 : decode cX10_tally 76 = .ok (.iload 8, 2) := by decide +kernel
theorem dX10_tally_78 : decode cX10_tally 78 = .ok (.iload 7, 2) := by decide +kernel
theorem dX10_tally_80 : decode cX10_tally 80 = .ok (.invokevirtual 62, 3) := by decide +kernel
theorem dX10_tally_83 : decode cX10_tally 83 = .ok (.ifCond .ne 20, 3) := by decide +kernel
theorem dX10_tally_86 : decode cX10_tally 86 = .ok (.aload_n 0, 1) := by decide +kernel
theorem dX10_tally_87 : decode cX10_tally 87 = .ok (.iload 8, 2) := by decide +kernel
theorem dX10_tally_89 : decode cX10_tally 89 = .ok (.iload 7, 2) := by decide +kernel
theorem dX10_tally_91 : decode cX10_tally 91 = .ok (.invokevirtual 137, 3) := by decide +kernel
theorem dX10_tally_94 : decode cX10_tally 94 = .ok (.iload 5, 2) := by decide +kernel
theorem dX10_tally_96 : decode cX10_tally 96 = .ok (.if_icmp .gt 7, 3) := by decide +kernel
theorem dX10_tally_99 : decode cX10_tally 99 = .ok (.iconst 1, 1) := by decide +kernel
theorem dX10_tally_100 : decode cX10_tally 100 = .ok (.goto 4, 3) := by decide +kernel
theorem dX10_tally_103 : decode cX10_tally 103 = .ok (.iconst 0, 1) := by decide +kernel
theorem dX10_tally_104 : decode cX10_tally 104 = .ok (.iadd, 1) := by decide +kernel
theorem dX10_tally_105 : decode cX10_tally 105 = .ok (.istore 6, 2) := by decide +kernel
theorem dX10_tally_107 : decode cX10_tally 107 = .ok (.iinc 8 1, 3) := by decide +kernel
theorem dX10_tally_110 : decode cX10_tally 110 = .ok (.goto (-43), 3) := by decide +kernel
theorem dX10_tally_113 : decode cX10_tally 113 = .ok (.iinc 7 1, 3) := by decide +kernel
theorem dX10_tally_116 : decode cX10_tally 116 = .ok (.goto (-59), 3) := by decide +kernel
theorem dX10_tally_119 : decode cX10_tally 119 = .ok (.iload 6, 2) := by decide +kernel
theorem dX10_tally_121 : decode cX10_tally 121 = .ok (.ireturn, 1) := by decide +kernel
theorem dX10_filter_0 : decode cX10_filter 0 = .ok (.iload_n 1, 1) := by decide +kernel
theorem dX10_filter_1 : decode cX10_filter 1 = .ok (.i2l, 1) := by decide +kernel
theorem dX10_filter_2 : decode cX10_filter 2 = .ok (.lconst 0, 1) := by decide +kernel
theorem dX10_filter_3 : decode cX10_filter 3 = .ok (.ldc2_w 180, 3) := by decide +kernel
theorem dX10_filter_6 : decode cX10_filter 6 = .ok (.invokestatic 58, 3) := by decide +kernel
theorem dX10_filter_9 : decode cX10_filter 9 = .ok (.ifCond .eq 57, 3) := by decide +kernel
theorem dX10_filter_12 : decode cX10_filter 12 = .ok (.iload_n 2, 1) := by decide +kernel
theorem dX10_filter_13 : decode cX10_filter 13 = .ok (.i2l, 1) := by decide +kernel
theorem dX10_filter_14 : decode cX10_filter 14 = .ok (.lconst 0, 1) := by decide +kernel
theorem dX10_filter_15 : decode cX10_filter 15 = .ok (.ldc2_w 180, 3) := by decide +kernel
theorem dX10_filter_18 : decode cX10_filter 18 = .ok (.invokestatic 58, 3) := by decide +kernel
theorem dX10_filter_21 : decode cX10_filter 21 = .ok (.ifCond .eq 45, 3) := by decide +kernel
theorem dX10_filter_24 : decode cX10_filter 24 = .ok (.iload_n 3, 1) := by decide +kernel
theorem dX10_filter_25 : decode cX10_filter 25 = .ok (.i2l, 1) := by decide +kernel
theorem dX10_filter_26 : decode cX10_filter 26 = .ok (.lconst 0, 1) := by decide +kernel
theorem dX10_filter_27 : decode cX10_filter 27 = .ok (.ldc2_w 182, 3) := by decide +kernel
theorem dX10_filter_30 : decode cX10_filter 30 = .ok (.invokestatic 58, 3) := by decide +kernel
theorem dX10_filter_33 : decode cX10_filter 33 = .ok (.ifCond .eq 33, 3) := by decide +kernel
theorem dX10_filter_36 : decode cX10_filter 36 = .ok (.iload 4, 2) := by decide +kernel
theorem dX10_filter_38 : decode cX10_filter 38 = .ok (.i2l, 1) := by decide +kernel
theorem dX10_filter_39 : decode cX10_filter 39 = .ok (.lconst 0, 1) := by decide +kernel
theorem dX10_filter_40 : decode cX10_filter 40 = .ok (.ldc2_w 180, 3) := by decide +kernel
theorem dX10_filter_43 : decode cX10_filter 43 = .ok (.invokestatic 58, 3) := by decide +kernel
theorem dX10_filter_46 : decode cX10_filter 46 = .ok (.ifCond .eq 20, 3) := by decide +kernel
theorem dX10_filter_49 : decode cX10_filter 49 = .ok (.iload 5, 2) := by decide +kernel
theorem dX10_filter_51 : decode cX10_filter 51 = .ok (.i2l, 1) := by decide +kernel
theorem dX10_filter_52 : decode cX10_filter 52 = .ok (.lconst 1, 1) := by decide +kernel
theorem dX10_filter_53 : decode cX10_filter 53 = .ok (.ldc2_w 184, 3) := by decide +kernel
theorem dX10_filter_56 : decode cX10_filter 56 = .ok (.invokestatic 58, 3) := by decide +kernel
theorem dX10_filter_59 : decode cX10_filter 59 = .ok (.ifCond .eq 7, 3) := by decide +kernel
theorem dX10_filter_62 : decode cX10_filter 62 = .ok (.iconst 1, 1) := by decide +kernel
theorem dX10_filter_63 : decode cX10_filter 63 = .ok (.goto 4, 3) := by decide +kernel
theorem dX10_filter_66 : decode cX10_filter 66 = .ok (.iconst 0, 1) := by decide +kernel
theorem dX10_filter_67 : decode cX10_filter 67 = .ok (.istore 6, 2) := by decide +kernel
theorem dX10_filter_69 : decode cX10_filter 69 = .ok (.iload 6, 2) := by decide +kernel
theorem dX10_filter_71 : decode cX10_filter 71 = .ok (.ifCond .ne 6, 3) := by decide +kernel
theorem dX10_filter_74 : decode cX10_filter 74 = .ok (.ldc 110, 2) := by decide +kernel
theorem dX10_filter_76 : decode cX10_filter 76 = .ok (.ireturn, 1) := by decide +kernel
theorem dX10_filter_77 : decode cX10_filter 77 = .ok (.aload_n 0, 1) := by decide +kernel
theorem dX10_filter_78 : decode cX10_filter 78 = .ok (.getfield 20, 3) := by decide +kernel
theorem dX10_filter_81 : decode cX10_filter 81 = .ok (.iconst 0, 1) := by decide +kernel
theorem dX10_filter_82 : decode cX10_filter 82 = .ok (.iaload, 1) := by decide +kernel
theorem dX10_filter_83 : decode cX10_filter 83 = .ok (.bipush 6, 2) := by decide +kernel
theorem dX10_filter_85 : decode cX10_filter 85 = .ok (.if_icmp .ne 6, 3) := by decide +kernel
theorem dX10_filter_88 : decode cX10_filter 88 = .ok (.ldc 111, 2) := by decide +kernel
theorem dX10_filter_90 : decode cX10_filter 90 = .ok (.ireturn, 1) := by decide +kernel
theorem dX10_filter_91 : decode cX10_filter 91 = .ok (.iconst 1, 1) := by decide +kernel
theorem dX10_filter_92 : decode cX10_filter 92 = .ok (.iconst 5, 1) := by decide +kernel
theorem dX10_filter_93 : decode cX10_filter 93 = .ok (.aload_n 0, 1) := by decide +kernel
theorem dX10_filter_94 : decode cX10_filter 94 = .ok (.getfield 20, 3) := by decide +kernel
theorem dX10_filter_97 : decode cX10_filter 97 = .ok (.iconst 0, 1) := by decide +kernel
theorem dX10_filter_98 : decode cX10_filter 98 = .ok (.iaload, 1) := by decide +kernel
theorem dX10_filter_99 : decode cX10_filter 99 = .ok (.imul, 1) := by decide +kernel
theorem dX10_filter_100 : decode cX10_filter 100 = .ok (.iadd, 1) := by decide +kernel
theorem dX10_filter_101 : decode cX10_filter 101 = .ok (.istore 7, 2) := by decide +kernel
theorem dX10_filter_103 : decode cX10_filter 103 = .ok (.aload_n 0, 1) := by decide +kernel
theorem dX10_filter_104 : decode cX10_filter 104 = .ok (.getfield 20, 3) := by decide +kernel
theorem dX10_filter_107 : decode cX10_filter 107 = .ok (.iload 7, 2) := by decide +kernel
theorem dX10_filter_109 : decode cX10_filter 109 = .ok (.iload_n 1, 1) := by decide +kernel
theorem dX10_filter_110 : decode cX10_filter 110 = .ok (.iastore, 1) := by decide +kernel
theorem dX10_filter_111 : decode cX10_filter 111 = .ok (.aload_n 0, 1) := by decide +kernel
theorem dX10_filter_112 : decode cX10_filter 112 = .ok (.getfield 20, 3) := by decide +kernel
theorem dX10_filter_115 : decode cX10_filter 115 = .ok (.iload 7, 2) := by decide +kernel
theorem dX10_filter_117 : decode cX10_filter 117 = .ok (.iconst 1, 1) := by decide +kernel
theorem dX10_filter_118 : decode cX10_filter 118 = .ok (.iadd, 1) := by decide +kernel
theorem dX10_filter_119 : decode cX10_filter 119 = .ok (.iload_n 2, 1) := by decide +kernel
theorem dX10_filter_120 : decode cX10_filter 120 = .ok (.iastore, 1) := by decide +kernel
theorem dX10_filter_121 : decode cX10_filter 121 = .ok (.aload_n 0, 1) := by decide +kernel
theorem dX10_filter_122 : decode cX10_filter 122 = .ok (.getfield 20, 3) := by decide +kernel
theorem dX10_filter_125 : decode cX10_filter 125 = .ok (.iload 7, 2) := by decide +kernel
theorem dX10_filter_127 : decode cX10_filter 127 = .ok (.iconst 2, 1) := by decide +kernel
theorem dX10_filter_128 : decode cX10_filter 128 = .ok (.iadd, 1) := by decide +kernel
theorem dX10_filter_129 : decode cX10_filter 129 = .ok (.iload_n 3, 1) := by decide +kernel
theorem dX10_filter_130 : decode cX10_filter 130 = .ok (.iastore, 1) := by decide +kernel
theorem dX10_filter_131 : decode cX10_filter 131 = .ok (.aload_n 0, 1) := by decide +kernel
theorem dX10_filter_132 : decode cX10_filter 132 = .ok (.getfield 20, 3) := by decide +kernel
theorem dX10_filter_135 : decode cX10_filter 135 = .ok (.iload 7, 2) := by decide +kernel
theorem dX10_filter_137 : decode cX10_filter 137 = .ok (.iconst 3, 1) := by decide +kernel
theorem dX10_filter_138 : decode cX10_filter 138 = .ok (.iadd, 1) := by decide +kernel
theorem dX10_filter_139 : decode cX10_filter 139 = .ok (.iload 4, 2) := by decide +kernel
theorem dX10_filter_141 : decode cX10_filter 141 = .ok (.iastore, 1) := by decide +kernel
theorem dX10_filter_142 : decode cX10_filter 142 = .ok (.aload_n 0, 1) := by decide +kernel
theorem dX10_filter_143 : decode cX10_filter 143 = .ok (.getfield 20, 3) := by decide +kernel
theorem dX10_filter_146 : decode cX10_filter 146 = .ok (.iload 7, 2) := by decide +kernel
theorem dX10_filter_148 : decode cX10_filter 148 = .ok (.iconst 4, 1) := by decide +kernel
theorem dX10_filter_149 : decode cX10_filter 149 = .ok (.iadd, 1) := by decide +kernel
theorem dX10_filter_150 : decode cX10_filter 150 = .ok (.iload 5, 2) := by decide +kernel
theorem dX10_filter_152 : decode cX10_filter 152 = .ok (.iastore, 1) := by decide +kernel
theorem dX10_filter_153 : decode cX10_filter 153 = .ok (.aload_n 0, 1) := by decide +kernel
theorem dX10_filter_154 : decode cX10_filter 154 = .ok (.getfield 20, 3) := by decide +kernel
theorem dX10_filter_157 : decode cX10_filter 157 = .ok (.iconst 0, 1) := by decide +kernel
theorem dX10_filter_158 : decode cX10_filter 158 = .ok (.dup2, 1) := by decide +kernel
theorem dX10_filter_159 : decode cX10_filter 159 = .ok (.iaload, 1) := by decide +kernel
theorem dX10_filter_160 : decode cX10_filter 160 = .ok (.iconst 1, 1) := by decide +kernel
theorem dX10_filter_161 : decode cX10_filter 161 = .ok (.iadd, 1) := by decide +kernel
theorem dX10_filter_162 : decode cX10_filter 162 = .ok (.iastore, 1) := by decide +kernel
theorem dX10_filter_163 : decode cX10_filter 163 = .ok (.aload_n 0, 1) := by decide +kernel
theorem dX10_filter_164 : decode cX10_filter 164 = .ok (.getfield 20, 3) := by decide +kernel
theorem dX10_filter_167 : decode cX10_filter 167 = .ok (.iconst 0, 1) := by decide +kernel
theorem dX10_filter_168 : decode cX10_filter 168 = .ok (.iaload, 1) := by decide +kernel
theorem dX10_filter_169 : decode cX10_filter 169 = .ok (.iconst 1, 1) := by decide +kernel
theorem dX10_filter_170 : decode cX10_filter 170 = .ok (.isub, 1) := by decide +kernel
theorem dX10_filter_171 : decode cX10_filter 171 = .ok (.ireturn, 1) := by decide +kernel
theorem dX10_isFilter_0 : decode cX10_isFilter 0 = .ok (.iload_n 1, 1) := by decide +kernel
theorem dX10_isFilter_1 : decode cX10_isFilter 1 = .ok (.i2l, 1) := by decide +kernel
theorem dX10_isFilter_2 : decode cX10_isFilter 2 = .ok (.lconst 0, 1) := by decide +kernel
theorem dX10_isFilter_3 : decode cX10_isFilter 3 = .ok (.aload_n 0, 1) := by decide +kernel
theorem dX10_isFilter_4 : decode cX10_isFilter 4 = .ok (.getfield 20, 3) := by decide +kernel
theorem dX10_isFilter_7 : decode cX10_isFilter 7 = .ok (.iconst 0, 1) := by decide +kernel
theorem dX10_isFilter_8 : decode cX10_isFilter 8 = .ok (.iaload, 1) := by decide +kernel
theorem dX10_isFilter_9 : decode cX10_isFilter 9 = .ok (.iconst 1, 1) := by decide +kernel
theorem dX10_isFilter_10 : decode cX10_isFilter 10 = .ok (.isub, 1) := by decide +kernel
theorem dX10_isFilter_11 : decode cX10_isFilter 11 = .ok (.i2l, 1) := by decide +kernel
theorem dX10_isFilter_12 : decode cX10_isFilter 12 = .ok (.invokestatic 58, 3) := by decide +kernel
theorem dX10_isFilter_15 : decode cX10_isFilter 15 = .ok (.ireturn, 1) := by decide +kernel
theorem dX10_drop_0 : decode cX10_drop 0 = .ok (.aload_n 0, 1) := by decide +kernel
theorem dX10_drop_1 : decode cX10_drop 1 = .ok (.iload_n 1, 1) := by decide +kernel
theorem dX10_drop_2 : decode cX10_drop 2 = .ok (.invokevirtual 186, 3) := by decide +kernel
theorem dX10_drop_5 : decode cX10_drop 5 = .ok (.ifCond .ne 6, 3) := by decide +kernel
theorem dX10_drop_8 : decode cX10_drop 8 = .ok (.ldc 175, 2) := by decide +kernel
theorem dX10_drop_10 : decode cX10_drop 10 = .ok (.ireturn, 1) := by decide +kernel
theorem dX10_drop_11 : decode cX10_drop 11 = .ok (.iconst 1, 1) := by decide +kernel
theorem dX10_drop_12 : decode cX10_drop 12 = .ok (.iconst 5, 1) := by decide +kernel
theorem dX10_drop_13 : decode cX10_drop 13 = .ok (.iload_n 1, 1) := by decide +kernel
theorem dX10_drop_14 : decode cX10_drop 14 = .ok (.imul, 1) := by decide +kernel
theorem dX10_drop_15 : decode cX10_drop 15 = .ok (.iadd, 1) := by decide +kernel
theorem dX10_drop_16 : decode cX10_drop 16 = .ok (.istore_n 2, 1) := by decide +kernel
theorem dX10_drop_17 : decode cX10_drop 17 = .ok (.iload_n 2, 1) := by decide +kernel
theorem dX10_drop_18 : decode cX10_drop 18 = .ok (.iconst 5, 1) := by decide +kernel
theorem dX10_drop_19 : decode cX10_drop 19 = .ok (.iadd, 1) := by decide +kernel
theorem dX10_drop_20 : decode cX10_drop 20 = .ok (.bipush 31, 2) := by decide +kernel
theorem dX10_drop_22 : decode cX10_drop 22 = .ok (.if_icmp .ge 23, 3) := by decide +kernel
theorem dX10_drop_25 : decode cX10_drop 25 = .ok (.aload_n 0, 1) := by decide +kernel
theorem dX10_drop_26 : decode cX10_drop 26 = .ok (.getfield 20, 3) := by decide +kernel
theorem dX10_drop_29 : decode cX10_drop 29 = .ok (.iload_n 2, 1) := by decide +kernel
theorem dX10_drop_30 : decode cX10_drop 30 = .ok (.aload_n 0, 1) := by decide +kernel
theorem dX10_drop_31 : decode cX10_drop 31 = .ok (.getfield 20, 3) := by decide +kernel
theorem dX10_drop_34 : decode cX10_drop 34 = .ok (.iload_n 2, 1) := by decide +kernel
theorem dX10_drop_35 : decode cX10_drop 35 = .ok (.iconst 5, 1) := by decide +kernel
theorem dX10_drop_36 : decode cX10_drop 36 = .ok (.iadd, 1) := by decide +kernel
theorem dX10_drop_37 : decode cX10_drop 37 = .ok (.iaload, 1) := by decide +kernel
theorem dX10_drop_38 : decode cX10_drop 38 = .ok (.iastore, 1) := by decide +kernel
theorem dX10_drop_39 : decode cX10_drop 39 = .ok (.iinc 2 1, 3) := by decide +kernel
theorem dX10_drop_42 : decode cX10_drop 42 = .ok (.goto (-25), 3) := by decide +kernel
theorem dX10_drop_45 : decode cX10_drop 45 = .ok (.aload_n 0, 1) := by decide +kernel
theorem dX10_drop_46 : decode cX10_drop 46 = .ok (.getfield 20, 3) := by decide +kernel
theorem dX10_drop_49 : decode cX10_drop 49 = .ok (.iconst 0, 1) := by decide +kernel
theorem dX10_drop_50 : decode cX10_drop 50 = .ok (.dup2, 1) := by decide +kernel
theorem dX10_drop_51 : decode cX10_drop 51 = .ok (.iaload, 1) := by decide +kernel
theorem dX10_drop_52 : decode cX10_drop 52 = .ok (.iconst 1, 1) := by decide +kernel
theorem dX10_drop_53 : decode cX10_drop 53 = .ok (.isub, 1) := by decide +kernel
theorem dX10_drop_54 : decode cX10_drop 54 = .ok (.iastore, 1) := by decide +kernel
theorem dX10_drop_55 : decode cX10_drop 55 = .ok (.aload_n 0, 1) := by decide +kernel
theorem dX10_drop_56 : decode cX10_drop 56 = .ok (.getfield 20, 3) := by decide +kernel
theorem dX10_drop_59 : decode cX10_drop 59 = .ok (.iconst 0, 1) := by decide +kernel
theorem dX10_drop_60 : decode cX10_drop 60 = .ok (.iaload, 1) := by decide +kernel
theorem dX10_drop_61 : decode cX10_drop 61 = .ok (.ireturn, 1) := by decide +kernel
theorem dX10_fill_0 : decode cX10_fill 0 = .ok (.iload_n 1, 1) := by decide +kernel
theorem dX10_fill_1 : decode cX10_fill 1 = .ok (.i2l, 1) := by decide +kernel
theorem dX10_fill_2 : decode cX10_fill 2 = .ok (.lconst 0, 1) := by decide +kernel
theorem dX10_fill_3 : decode cX10_fill 3 = .ok (.ldc2_w 108, 3) := by decide +kernel
theorem dX10_fill_6 : decode cX10_fill 6 = .ok (.invokestatic 58, 3) := by decide +kernel
theorem dX10_fill_9 : decode cX10_fill 9 = .ok (.ifCond .ne 6, 3) := by decide +kernel
theorem dX10_fill_12 : decode cX10_fill 12 = .ok (.ldc 110, 2) := by decide +kernel
theorem dX10_fill_14 : decode cX10_fill 14 = .ok (.ireturn, 1) := by decide +kernel
theorem dX10_fill_15 : decode cX10_fill 15 = .ok (.aload_n 0, 1) := by decide +kernel
theorem dX10_fill_16 : decode cX10_fill 16 = .ok (.getfield 127, 3) := by decide +kernel
theorem dX10_fill_19 : decode cX10_fill 19 = .ok (.istore_n 2, 1) := by decide +kernel
theorem dX10_fill_20 : decode cX10_fill 20 = .ok (.aload_n 0, 1) := by decide +kernel
theorem dX10_fill_21 : decode cX10_fill 21 = .ok (.iload_n 1, 1) := by decide +kernel
theorem dX10_fill_22 : decode cX10_fill 22 = .ok (.putfield 127, 3) := by decide +kernel
theorem dX10_fill_25 : decode cX10_fill 25 = .ok (.iload_n 2, 1) := by decide +kernel
theorem dX10_fill_26 : decode cX10_fill 26 = .ok (.ireturn, 1) := by decide +kernel
theorem dX10_below_0 : decode cX10_below 0 = .ok (.iconst 0, 1) := by decide +kernel
theorem dX10_below_1 : decode cX10_below 1 = .ok (.istore_n 2, 1) := by decide +kernel
theorem dX10_below_2 : decode cX10_below 2 = .ok (.iconst 0, 1) := by decide +kernel
theorem dX10_below_3 : decode cX10_below 3 = .ok (.istore_n 3, 1) := by decide +kernel
theorem dX10_below_4 : decode cX10_below 4 = .ok (.iload_n 3, 1) := by decide +kernel
theorem dX10_below_5 : decode cX10_below 5 = .ok (.aload_n 0, 1) := by decide +kernel
theorem dX10_below_6 : decode cX10_below 6 = .ok (.getfield 121, 3) := by decide +kernel
theorem dX10_below_9 : decode cX10_below 9 = .ok (.if_icmp .ge 27, 3) := by decide +kernel
theorem dX10_below_12 : decode cX10_below 12 = .ok (.iload_n 2, 1) := by decide +kernel
theorem dX10_below_13 : decode cX10_below 13 = .ok (.aload_n 0, 1) := by decide +kernel
theorem dX10_below_14 : decode cX10_below 14 = .ok (.getfield 41, 3) := by decide +kernel
theorem dX10_below_17 : decode cX10_below 17 = .ok (.iload_n 3, 1) := by decide +kernel
theorem dX10_below_18 : decode cX10_below 18 = .ok (.iaload, 1) := by decide +kernel
theorem dX10_below_19 : decode cX10_below 19 = .ok (.iload_n 1, 1) := by decide +kernel
theorem dX10_below_20 : decode cX10_below 20 = .ok (.if_icmp .ge 7, 3) := by decide +kernel
theorem dX10_below_23 : decode cX10_below 23 = .ok (.iconst 1, 1) := by decide +kernel
theorem dX10_below_24 : decode cX10_below 24 = .ok (.goto 4, 3) := by decide +kernel
theorem dX10_below_27 : decode cX10_below 27 = .ok (.iconst 0, 1) := by decide +kernel
theorem dX10_below_28 : decode cX10_below 28 = .ok (.iadd, 1) := by decide +kernel
theorem dX10_below_29 : decode cX10_below 29 = .ok (.istore_n 2, 1) := by decide +kernel
theorem dX10_below_30 : decode cX10_below 30 = .ok (.iinc 3 1, 3) := by decide +kernel
theorem dX10_below_33 : decode cX10_below 33 = .ok (.goto (-29), 3) := by decide +kernel
theorem dX10_below_36 : decode cX10_below 36 = .ok (.iload_n 2, 1) := by decide +kernel
theorem dX10_below_37 : decode cX10_below 37 = .ok (.ireturn, 1) := by decide +kernel
theorem dX10_would_0 : decode cX10_would 0 = .ok (.aload_n 0, 1) := by decide +kernel
theorem dX10_would_1 : decode cX10_would 1 = .ok (.iload_n 1, 1) := by decide +kernel
theorem dX10_would_2 : decode cX10_would 2 = .ok (.invokevirtual 186, 3) := by decide +kernel
theorem dX10_would_5 : decode cX10_would 5 = .ok (.ifCond .eq 12, 3) := by decide +kernel
theorem dX10_would_8 : decode cX10_would 8 = .ok (.aload_n 0, 1) := by decide +kernel
theorem dX10_would_9 : decode cX10_would 9 = .ok (.iload_n 2, 1) := by decide +kernel
theorem dX10_would_10 : decode cX10_would 10 = .ok (.iload_n 3, 1) := by decide +kernel
theorem dX10_would_11 : decode cX10_would 11 = .ok (.invokevirtual 140, 3) := by decide +kernel
theorem dX10_would_14 : decode cX10_would 14 = .ok (.ifCond .ne 6, 3) := by decide +kernel
theorem dX10_would_17 : decode cX10_would 17 = .ok (.ldc 175, 2) := by decide +kernel
theorem dX10_would_19 : decode cX10_would 19 = .ok (.ireturn, 1) := by decide +kernel
theorem dX10_would_20 : decode cX10_would 20 = .ok (.aload_n 0, 1) := by decide +kernel
theorem dX10_would_21 : decode cX10_would 21 = .ok (.iload_n 1, 1) := by decide +kernel
theorem dX10_would_22 : decode cX10_would 22 = .ok (.iload_n 2, 1) := by decide +kernel
theorem dX10_would_23 : decode cX10_would 23 = .ok (.iload_n 3, 1) := by decide +kernel
theorem dX10_would_24 : decode cX10_would 24 = .ok (.invokevirtual 157, 3) := by decide +kernel
theorem dX10_would_27 : decode cX10_would 27 = .ok (.istore 5, 2) := by decide +kernel
theorem dX10_would_29 : decode cX10_would 29 = .ok (.iload 4, 2) := by decide +kernel
theorem dX10_would_31 : decode cX10_would 31 = .ok (.tableswitch 78 0 3 #[29, 32, 37, 48], 29) := by decide +kernel
theorem dX10_would_60 : decode cX10_would 60 = .ok (.iload 5, 2) := by decide +kernel
theorem dX10_would_62 : decode cX10_would 62 = .ok (.ireturn, 1) := by decide +kernel
theorem dX10_would_63 : decode cX10_would 63 = .ok (.aload_n 0, 1) := by decide +kernel
theorem dX10_would_64 : decode cX10_would 64 = .ok (.getfield 121, 3) := by decide +kernel
theorem dX10_would_67 : decode cX10_would 67 = .ok (.ireturn, 1) := by decide +kernel
theorem dX10_would_68 : decode cX10_would 68 = .ok (.aload_n 0, 1) := by decide +kernel
theorem dX10_would_69 : decode cX10_would 69 = .ok (.aload_n 0, 1) := by decide +kernel
theorem dX10_would_70 : decode cX10_would 70 = .ok (.iload_n 2, 1) := by decide +kernel
theorem dX10_would_71 : decode cX10_would 71 = .ok (.iload_n 3, 1) := by decide +kernel
theorem dX10_would_72 : decode cX10_would 72 = .ok (.invokevirtual 137, 3) := by decide +kernel
theorem dX10_would_75 : decode cX10_would 75 = .ok (.invokevirtual 190, 3) := by decide +kernel
theorem dX10_would_78 : decode cX10_would 78 = .ok (.ireturn, 1) := by decide +kernel
theorem dX10_would_79 : decode cX10_would 79 = .ok (.aload_n 0, 1) := by decide +kernel
theorem dX10_would_80 : decode cX10_would 80 = .ok (.getfield 121, 3) := by decide +kernel
theorem dX10_would_83 : decode cX10_would 83 = .ok (.ifCond .ne 7, 3) := by decide +kernel
theorem dX10_would_86 : decode cX10_would 86 = .ok (.iconst (-1), 1) := by decide +kernel
theorem dX10_would_87 : decode cX10_would 87 = .ok (.goto 21, 3) := by decide +kernel
theorem dX10_would_90 : decode cX10_would 90 = .ok (.aload_n 0, 1) := by decide +kernel
theorem dX10_would_91 : decode cX10_would 91 = .ok (.getfield 41, 3) := by decide +kernel
theorem dX10_would_94 : decode cX10_would 94 = .ok (.aload_n 0, 1) := by decide +kernel
theorem dX10_would_95 : decode cX10_would 95 = .ok (.getfield 121, 3) := by decide +kernel
theorem dX10_would_98 : decode cX10_would 98 = .ok (.iconst 1, 1) := by decide +kernel
theorem dX10_would_99 : decode cX10_would 99 = .ok (.isub, 1) := by decide +kernel
theorem dX10_would_100 : decode cX10_would 100 = .ok (.iaload, 1) := by decide +kernel
theorem dX10_would_101 : decode cX10_would 101 = .ok (.aload_n 0, 1) := by decide +kernel
theorem dX10_would_102 : decode cX10_would 102 = .ok (.getfield 41, 3) := by decide +kernel
theorem dX10_would_105 : decode cX10_would 105 = .ok (.iconst 0, 1) := by decide +kernel
theorem dX10_would_106 : decode cX10_would 106 = .ok (.iaload, 1) := by decide +kernel
theorem dX10_would_107 : decode cX10_would 107 = .ok (.isub, 1) := by decide +kernel
theorem dX10_would_108 : decode cX10_would 108 = .ok (.ireturn, 1) := by decide +kernel
theorem dX10_would_109 : decode cX10_would 109 = .ok (.ldc 110, 2) := by decide +kernel
theorem dX10_would_111 : decode cX10_would 111 = .ok (.ireturn, 1) := by decide +kernel
theorem dX10_bins_0 : decode cX10_bins 0 = .ok (.aload_n 0, 1) := by decide +kernel
theorem dX10_bins_1 : decode cX10_bins 1 = .ok (.iload_n 1, 1) := by decide +kernel
theorem dX10_bins_2 : decode cX10_bins 2 = .ok (.invokevirtual 186, 3) := by decide +kernel
theorem dX10_bins_5 : decode cX10_bins 5 = .ok (.ifCond .ne 6, 3) := by decide +kernel
theorem dX10_bins_8 : decode cX10_bins 8 = .ok (.ldc 175, 2) := by decide +kernel
theorem dX10_bins_10 : decode cX10_bins 10 = .ok (.ireturn, 1) := by decide +kernel
theorem dX10_bins_11 : decode cX10_bins 11 = .ok (.iconst 0, 1) := by decide +kernel
theorem dX10_bins_12 : decode cX10_bins 12 = .ok (.istore_n 2, 1) := by decide +kernel
theorem dX10_bins_13 : decode cX10_bins 13 = .ok (.iconst 0, 1) := by decide +kernel
theorem dX10_bins_14 : decode cX10_bins 14 = .ok (.istore_n 3, 1) := by decide +kernel
theorem dX10_bins_15 : decode cX10_bins 15 = .ok (.iload_n 3, 1) := by decide +kernel
theorem dX10_bins_16 : decode cX10_bins 16 = .ok (.aload_n 0, 1) := by decide +kernel
theorem dX10_bins_17 : decode cX10_bins 17 = .ok (.getfield 7, 3) := by decide +kernel
theorem dX10_bins_20 : decode cX10_bins 20 = .ok (.iconst 1, 1) := by decide +kernel
theorem dX10_bins_21 : decode cX10_bins 21 = .ok (.iaload, 1) := by decide +kernel
theorem dX10_bins_22 : decode cX10_bins 22 = .ok (.if_icmp .ge 78, 3) := by decide +kernel
theorem dX10_bins_25 : decode cX10_bins 25 = .ok (.iconst 0, 1) := by decide +kernel
theorem dX10_bins_26 : decode cX10_bins 26 = .ok (.istore 4, 2) := by decide +kernel
theorem dX10_bins_28 : decode cX10_bins 28 = .ok (.iload 4, 2) := by decide +kernel
theorem dX10_bins_30 : decode cX10_bins 30 = .ok (.aload_n 0, 1) := by decide +kernel
theorem dX10_bins_31 : decode cX10_bins 31 = .ok (.getfield 7, 3) := by decide +kernel
theorem dX10_bins_34 : decode cX10_bins 34 = .ok (.iconst 0, 1) := by decide +kernel
theorem dX10_bins_35 : decode cX10_bins 35 = .ok (.iaload, 1) := by decide +kernel
theorem dX10_bins_36 : decode cX10_bins 36 = .ok (.if_icmp .ge 58, 3) := by decide +kernel
theorem dX10_bins_39 : decode cX10_bins 39 = .ok (.aload_n 0, 1) := by decide +kernel
theorem dX10_bins_40 : decode cX10_bins 40 = .ok (.iload 4, 2) := by decide +kernel
theorem dX10_bins_42 : decode cX10_bins 42 = .ok (.iload_n 3, 1) := by decide +kernel
theorem dX10_bins_43 : decode cX10_bins 43 = .ok (.invokevirtual 62, 3) := by decide +kernel
theorem dX10_bins_46 : decode cX10_bins 46 = .ok (.ifCond .eq 7, 3) := by decide +kernel
theorem dX10_bins_49 : decode cX10_bins 49 = .ok (.iconst (-1), 1) := by decide +kernel
theorem dX10_bins_50 : decode cX10_bins 50 = .ok (.goto 11, 3) := by decide +kernel
theorem dX10_bins_53 : decode cX10_bins 53 = .ok (.aload_n 0, 1) := by decide +kernel
theorem dX10_bins_54 : decode cX10_bins 54 = .ok (.iload_n 1, 1) := by decide +kernel
theorem dX10_bins_55 : decode cX10_bins 55 = .ok (.iload 4, 2) := by decide +kernel
theorem dX10_bins_57 : decode cX10_bins 57 = .ok (.iload_n 3, 1) := by decide +kernel
theorem dX10_bins_58 : decode cX10_bins 58 = .ok (.invokevirtual 157, 3) := by decide +kernel
theorem dX10_bins_61 : decode cX10_bins 61 = .ok (.istore 5, 2) := by decide +kernel
theorem dX10_bins_63 : decode cX10_bins 63 = .ok (.iload_n 2, 1) := by decide +kernel
theorem dX10_bins_64 : decode cX10_bins 64 = .ok (.iload 5, 2) := by decide +kernel
theorem dX10_bins_66 : decode cX10_bins 66 = .ok (.ifCond .ge 7, 3) := by decide +kernel
theorem dX10_bins_69 : decode cX10_bins 69 = .ok (.iconst 0, 1) := by decide +kernel
theorem dX10_bins_70 : decode cX10_bins 70 = .ok (.goto 16, 3) := by decide +kernel
theorem dX10_bins_73 : decode cX10_bins 73 = .ok (.iload 5, 2) := by decide +kernel
theorem dX10_bins_75 : decode cX10_bins 75 = .ok (.bipush 16, 2) := by decide +kernel
theorem dX10_bins_77 : decode cX10_bins 77 = .ok (.idiv, 1) := by decide +kernel
theorem dX10_bins_78 : decode cX10_bins 78 = .ok (.iload 5, 2) := by decide +kernel
theorem dX10_bins_80 : decode cX10_bins 80 = .ok (.bipush 16, 2) := by decide +kernel
theorem dX10_bins_82 : decode cX10_bins 82 = .ok (.irem, 1) := by decide +kernel
theorem dX10_bins_83 : decode cX10_bins 83 = .ok (.iadd, 1) := by decide +kernel
theorem dX10_bins_84 : decode cX10_bins 84 = .ok (.iconst 2, 1) := by decide +kernel
theorem dX10_bins_85 : decode cX10_bins 85 = .ok (.iadd, 1) := by decide +kernel
theorem dX10_bins_86 : decode cX10_bins 86 = .ok (.iadd, 1) := by decide +kernel
theorem dX10_bins_87 : decode cX10_bins 87 = .ok (.istore_n 2, 1) := by decide +kernel
theorem dX10_bins_88 : decode cX10_bins 88 = .ok (.iinc 4 1, 3) := by decide +kernel
theorem dX10_bins_91 : decode cX10_bins 91 = .ok (.goto (-63), 3) := by decide +kernel
theorem dX10_bins_94 : decode cX10_bins 94 = .ok (.iinc 3 1, 3) := by decide +kernel
theorem dX10_bins_97 : decode cX10_bins 97 = .ok (.goto (-82), 3) := by decide +kernel
theorem dX10_bins_100 : decode cX10_bins 100 = .ok (.iload_n 2, 1) := by decide +kernel
theorem dX10_bins_101 : decode cX10_bins 101 = .ok (.ireturn, 1) := by decide +kernel
theorem dX10_spikes_0 : decode cX10_spikes 0 = .ok (.aload_n 0, 1) := by decide +kernel
theorem dX10_spikes_1 : decode cX10_spikes 1 = .ok (.iload_n 1, 1) := by decide +kernel
theorem dX10_spikes_2 : decode cX10_spikes 2 = .ok (.invokevirtual 186, 3) := by decide +kernel
theorem dX10_spikes_5 : decode cX10_spikes 5 = .ok (.ifCond .ne 6, 3) := by decide +kernel
theorem dX10_spikes_8 : decode cX10_spikes 8 = .ok (.ldc 175, 2) := by decide +kernel
theorem dX10_spikes_10 : decode cX10_spikes 10 = .ok (.ireturn, 1) := by decide +kernel
theorem dX10_spikes_11 : decode cX10_spikes 11 = .ok (.iload_n 2, 1) := by decide +kernel
theorem dX10_spikes_12 : decode cX10_spikes 12 = .ok (.i2l, 1) := by decide +kernel
theorem dX10_spikes_13 : decode cX10_spikes 13 = .ok (.lconst 0, 1) := by decide +kernel
theorem dX10_spikes_14 : decode cX10_spikes 14 = .ok (.ldc2_w 108, 3) := by decide +kernel
theorem dX10_spikes_17 : decode cX10_spikes 17 = .ok (.invokestatic 58, 3) := by decide +kernel
theorem dX10_spikes_20 : decode cX10_spikes 20 = .ok (.ifCond .ne 6, 3) := by decide +kernel
theorem dX10_spikes_23 : decode cX10_spikes 23 = .ok (.ldc 110, 2) := by decide +kernel
theorem dX10_spikes_25 : decode cX10_spikes 25 = .ok (.ireturn, 1) := by decide +kernel
theorem dX10_spikes_26 : decode cX10_spikes 26 = .ok (.iconst 0, 1) := by decide +kernel
theorem dX10_spikes_27 : decode cX10_spikes 27 = .ok (.istore_n 3, 1) := by decide +kernel
theorem dX10_spikes_28 : decode cX10_spikes 28 = .ok (.iconst 0, 1) := by decide +kernel
theorem dX10_spikes_29 : decode cX10_spikes 29 = .ok (.istore 4, 2) := by decide +kernel
theorem dX10_spikes_31 : decode cX10_spikes 31 = .ok (.iload 4, 2) := by decide +kernel
theorem dX10_spikes_33 : decode cX10_spikes 33 = .ok (.aload_n 0, 1) := by decide +kernel
theorem dX10_spikes_34 : decode cX10_spikes 34 = .ok (.getfield 7, 3) := by decide +kernel
theorem dX10_spikes_37 : decode cX10_spikes 37 = .ok (.iconst 1, 1) := by decide +kernel
theorem dX10_spikes_38 : decode cX10_spikes 38 = .ok (.iaload, 1) := by decide +kernel
theorem dX10_spikes_39 : decode cX10_spikes 39 = .ok (.if_icmp .ge 85, 3) := by decide +kernel
theorem dX10_spikes_42 : decode cX10_spikes 42 = .ok (.iconst 0, 1) := by decide +kernel
theorem dX10_spikes_43 : decode cX10_spikes 43 = .ok (.istore 5, 2) := by decide +kernel
theorem dX10_spikes_45 : decode cX10_spikes 45 = .ok (.iload 5, 2) := by decide +kernel
theorem dX10_spikes_47 : decode cX10_spikes 47 = .ok (.aload_n 0, 1) := by decide +kernel
theorem dX10_spikes_48 : decode cX10_spikes 48 = .ok (.getfield 7, 3) := by decide +kernel
theorem dX10_spikes_51 : decode cX10_spikes 51 = .ok (.iconst 0, 1) := by decide +kernel
theorem dX10_spikes_52 : decode cX10_spikes 52 = .ok (.iaload, 1) := by decide +kernel
theorem dX10_spikes_53 : decode cX10_spikes 53 = .ok (.if_icmp .ge 65, 3) := by decide +kernel
theorem dX10_spikes_56 : decode cX10_spikes 56 = .ok (.aload_n 0, 1) := by decide +kernel
theorem dX10_spikes_57 : decode cX10_spikes 57 = .ok (.iload 5, 2) := by decide +kernel
theorem dX10_spikes_59 : decode cX10_spikes 59 = .ok (.iload 4, 2) := by decide +kernel
theorem dX10_spikes_61 : decode cX10_spikes 61 = .ok (.invokevirtual 62, 3) := by decide +kernel
theorem dX10_spikes_64 : decode cX10_spikes 64 = .ok (.ifCond .eq 7, 3) := by decide +kernel
theorem dX10_spikes_67 : decode cX10_spikes 67 = .ok (.iconst 0, 1) := by decide +kernel
theorem dX10_spikes_68 : decode cX10_spikes 68 = .ok (.goto 21, 3) := by decide +kernel
theorem dX10_spikes_71 : decode cX10_spikes 71 = .ok (.aload_n 0, 1) := by decide +kernel
theorem dX10_spikes_72 : decode cX10_spikes 72 = .ok (.iload 5, 2) := by decide +kernel
theorem dX10_spikes_74 : decode cX10_spikes 74 = .ok (.iload 4, 2) := by decide +kernel
theorem dX10_spikes_76 : decode cX10_spikes 76 = .ok (.invokevirtual 137, 3) := by decide +kernel
theorem dX10_spikes_79 : decode cX10_spikes 79 = .ok (.aload_n 0, 1) := by decide +kernel
theorem dX10_spikes_80 : decode cX10_spikes 80 = .ok (.iload_n 1, 1) := by decide +kernel
theorem dX10_spikes_81 : decode cX10_spikes 81 = .ok (.iload 5, 2) := by decide +kernel
theorem dX10_spikes_83 : decode cX10_spikes 83 = .ok (.iload 4, 2) := by decide +kernel
theorem dX10_spikes_85 : decode cX10_spikes 85 = .ok (.invokevirtual 157, 3) := by decide +kernel
theorem dX10_spikes_88 : decode cX10_spikes 88 = .ok (.isub, 1) := by decide +kernel
theorem dX10_spikes_89 : decode cX10_spikes 89 = .ok (.istore 6, 2) := by decide +kernel
theorem dX10_spikes_91 : decode cX10_spikes 91 = .ok (.iload_n 3, 1) := by decide +kernel
theorem dX10_spikes_92 : decode cX10_spikes 92 = .ok (.iload 6, 2) := by decide +kernel
theorem dX10_spikes_94 : decode cX10_spikes 94 = .ok (.iload_n 2, 1) := by decide +kernel
theorem dX10_spikes_95 : decode cX10_spikes 95 = .ok (.if_icmp .gt 10, 3) := by decide +kernel
theorem dX10_spikes_98 : decode cX10_spikes 98 = .ok (.iload 6, 2) := by decide +kernel
theorem dX10_spikes_100 : decode cX10_spikes 100 = .ok (.ineg, 1) := by decide +kernel
theorem dX10_spikes_101 : decode cX10_spikes 101 = .ok (.iload_n 2, 1) := by decide +kernel
theorem dX10_spikes_102 : decode cX10_spikes 102 = .ok (.if_icmp .le 7, 3) := by decide +kernel
theorem dX10_spikes_105 : decode cX10_spikes 105 = .ok (.iconst 1, 1) := by decide +kernel
theorem dX10_spikes_106 : decode cX10_spikes 106 = .ok (.goto 4, 3) := by decide +kernel
theorem dX10_spikes_109 : decode cX10_spikes 109 = .ok (.iconst 0, 1) := by decide +kernel
theorem dX10_spikes_110 : decode cX10_spikes 110 = .ok (.iadd, 1) := by decide +kernel
theorem dX10_spikes_111 : decode cX10_spikes 111 = .ok (.istore_n 3, 1) := by decide +kernel
theorem dX10_spikes_112 : decode cX10_spikes 112 = .ok (.iinc 5 1, 3) := by decide +kernel
theorem dX10_spikes_115 : decode cX10_spikes 115 = .ok (.goto (-70), 3) := by decide +kernel
theorem dX10_spikes_118 : decode cX10_spikes 118 = .ok (.iinc 4 1, 3) := by decide +kernel
theorem dX10_spikes_121 : decode cX10_spikes 121 = .ok (.goto (-90), 3) := by decide +kernel
theorem dX10_spikes_124 : decode cX10_spikes 124 = .ok (.iload_n 3, 1) := by decide +kernel
theorem dX10_spikes_125 : decode cX10_spikes 125 = .ok (.ireturn, 1) := by decide +kernel
theorem dX10_dot_0 : decode cX10_dot 0 = .ok (.aload_n 0, 1) := by decide +kernel
theorem dX10_dot_1 : decode cX10_dot 1 = .ok (.iload_n 1, 1) := by decide +kernel
theorem dX10_dot_2 : decode cX10_dot 2 = .ok (.iload_n 2, 1) := by decide +kernel
theorem dX10_dot_3 : decode cX10_dot 3 = .ok (.invokevirtual 140, 3) := by decide +kernel
theorem dX10_dot_6 : decode cX10_dot 6 = .ok (.ifCond .ne 6, 3) := by decide +kernel
theorem dX10_dot_9 : decode cX10_dot 9 = .ok (.ldc 175, 2) := by decide +kernel
theorem dX10_dot_11 : decode cX10_dot 11 = .ok (.ireturn, 1) := by decide +kernel
theorem dX10_dot_12 : decode cX10_dot 12 = .ok (.iload_n 3, 1) := by decide +kernel
theorem dX10_dot_13 : decode cX10_dot 13 = .ok (.i2l, 1) := by decide +kernel
theorem dX10_dot_14 : decode cX10_dot 14 = .ok (.lconst 0, 1) := by decide +kernel
theorem dX10_dot_15 : decode cX10_dot 15 = .ok (.ldc2_w 108, 3) := by decide +kernel
theorem dX10_dot_18 : decode cX10_dot 18 = .ok (.invokestatic 58, 3) := by decide +kernel
theorem dX10_dot_21 : decode cX10_dot 21 = .ok (.ifCond .ne 6, 3) := by decide +kernel
theorem dX10_dot_24 : decode cX10_dot 24 = .ok (.ldc 110, 2) := by decide +kernel
theorem dX10_dot_26 : decode cX10_dot 26 = .ok (.ireturn, 1) := by decide +kernel
theorem dX10_dot_27 : decode cX10_dot 27 = .ok (.aload_n 0, 1) := by decide +kernel
theorem dX10_dot_28 : decode cX10_dot 28 = .ok (.invokevirtual 115, 3) := by decide +kernel
theorem dX10_dot_31 : decode cX10_dot 31 = .ok (.aload_n 0, 1) := by decide +kernel
theorem dX10_dot_32 : decode cX10_dot 32 = .ok (.iload_n 1, 1) := by decide +kernel
theorem dX10_dot_33 : decode cX10_dot 33 = .ok (.iload_n 2, 1) := by decide +kernel
theorem dX10_dot_34 : decode cX10_dot 34 = .ok (.invokevirtual 137, 3) := by decide +kernel
theorem dX10_dot_37 : decode cX10_dot 37 = .ok (.istore 4, 2) := by decide +kernel
theorem dX10_dot_39 : decode cX10_dot 39 = .ok (.aload_n 0, 1) := by decide +kernel
theorem dX10_dot_40 : decode cX10_dot 40 = .ok (.iload_n 1, 1) := by decide +kernel
theorem dX10_dot_41 : decode cX10_dot 41 = .ok (.iload_n 2, 1) := by decide +kernel
theorem dX10_dot_42 : decode cX10_dot 42 = .ok (.iload_n 3, 1) := by decide +kernel
theorem dX10_dot_43 : decode cX10_dot 43 = .ok (.invokevirtual 160, 3) := by decide +kernel
theorem dX10_dot_46 : decode cX10_dot 46 = .ok (.iload 4, 2) := by decide +kernel
theorem dX10_dot_48 : decode cX10_dot 48 = .ok (.ireturn, 1) := by decide +kernel
theorem dX10_mask_0 : decode cX10_mask 0 = .ok (.aload_n 0, 1) := by decide +kernel
theorem dX10_mask_1 : decode cX10_mask 1 = .ok (.iload_n 1, 1) := by decide +kernel
theorem dX10_mask_2 : decode cX10_mask 2 = .ok (.iload_n 2, 1) := by decide +kernel
theorem dX10_mask_3 : decode cX10_mask 3 = .ok (.invokevirtual 140, 3) := by decide +kernel
theorem dX10_mask_6 : decode cX10_mask 6 = .ok (.ifCond .ne 6, 3) := by decide +kernel
theorem dX10_mask_9 : decode cX10_mask 9 = .ok (.ldc 175, 2) := by decide +kernel
theorem dX10_mask_11 : decode cX10_mask 11 = .ok (.ireturn, 1) := by decide +kernel
theorem dX10_mask_12 : decode cX10_mask 12 = .ok (.aload_n 0, 1) := by decide +kernel
theorem dX10_mask_13 : decode cX10_mask 13 = .ok (.invokevirtual 115, 3) := by decide +kernel
theorem dX10_mask_16 : decode cX10_mask 16 = .ok (.aload_n 0, 1) := by decide +kernel
theorem dX10_mask_17 : decode cX10_mask 17 = .ok (.getfield 7, 3) := by decide +kernel
theorem dX10_mask_20 : decode cX10_mask 20 = .ok (.aload_n 0, 1) := by decide +kernel
theorem dX10_mask_21 : decode cX10_mask 21 = .ok (.iload_n 1, 1) := by decide +kernel
theorem dX10_mask_22 : decode cX10_mask 22 = .ok (.iload_n 2, 1) := by decide +kernel
theorem dX10_mask_23 : decode cX10_mask 23 = .ok (.invokevirtual 54, 3) := by decide +kernel
theorem dX10_mask_26 : decode cX10_mask 26 = .ok (.aload_n 0, 1) := by decide +kernel
theorem dX10_mask_27 : decode cX10_mask 27 = .ok (.iload_n 1, 1) := by decide +kernel
theorem dX10_mask_28 : decode cX10_mask 28 = .ok (.iload_n 2, 1) := by decide +kernel
theorem dX10_mask_29 : decode cX10_mask 29 = .ok (.invokevirtual 137, 3) := by decide +kernel
theorem dX10_mask_32 : decode cX10_mask 32 = .ok (.iload_n 3, 1) := by decide +kernel
theorem dX10_mask_33 : decode cX10_mask 33 = .ok (.ifCond .eq 9, 3) := by decide +kernel
theorem dX10_mask_36 : decode cX10_mask 36 = .ok (.sipush 256, 3) := by decide +kernel
theorem dX10_mask_39 : decode cX10_mask 39 = .ok (.goto 4, 3) := by decide +kernel
theorem dX10_mask_42 : decode cX10_mask 42 = .ok (.iconst 0, 1) := by decide +kernel
theorem dX10_mask_43 : decode cX10_mask 43 = .ok (.iadd, 1) := by decide +kernel
theorem dX10_mask_44 : decode cX10_mask 44 = .ok (.iastore, 1) := by decide +kernel
theorem dX10_mask_45 : decode cX10_mask 45 = .ok (.aload_n 0, 1) := by decide +kernel
theorem dX10_mask_46 : decode cX10_mask 46 = .ok (.invokevirtual 166, 3) := by decide +kernel
theorem dX10_mask_49 : decode cX10_mask 49 = .ok (.ireturn, 1) := by decide +kernel
theorem dX10_turnedFrom_0 : decode cX10_turnedFrom 0 = .ok (.bipush 82, 2) := by decide +kernel
theorem dX10_turnedFrom_2 : decode cX10_turnedFrom 2 = .ok (.iload_n 1, 1) := by decide +kernel
theorem dX10_turnedFrom_3 : decode cX10_turnedFrom 3 = .ok (.ifCond .ne 21, 3) := by decide +kernel
theorem dX10_turnedFrom_6 : decode cX10_turnedFrom 6 = .ok (.aload_n 0, 1) := by decide +kernel
theorem dX10_turnedFrom_7 : decode cX10_turnedFrom 7 = .ok (.aload_n 0, 1) := by decide +kernel
theorem dX10_turnedFrom_8 : decode cX10_turnedFrom 8 = .ok (.getfield 7, 3) := by decide +kernel
theorem dX10_turnedFrom_11 : decode cX10_turnedFrom 11 = .ok (.iconst 0, 1) := by decide +kernel
theorem dX10_turnedFrom_12 : decode cX10_turnedFrom 12 = .ok (.iaload, 1) := by decide +kernel
theorem dX10_turnedFrom_13 : decode cX10_turnedFrom 13 = .ok (.iconst 1, 1) := by decide +kernel
theorem dX10_turnedFrom_14 : decode cX10_turnedFrom 14 = .ok (.isub, 1) := by decide +kernel
theorem dX10_turnedFrom_15 : decode cX10_turnedFrom 15 = .ok (.iload_n 2, 1) := by decide +kernel
theorem dX10_turnedFrom_16 : decode cX10_turnedFrom 16 = .ok (.isub, 1) := by decide +kernel
theorem dX10_turnedFrom_17 : decode cX10_turnedFrom 17 = .ok (.iload_n 3, 1) := by decide +kernel
theorem dX10_turnedFrom_18 : decode cX10_turnedFrom 18 = .ok (.invokevirtual 54, 3) := by decide +kernel
theorem dX10_turnedFrom_21 : decode cX10_turnedFrom 21 = .ok (.goto 46, 3) := by decide +kernel
theorem dX10_turnedFrom_24 : decode cX10_turnedFrom 24 = .ok (.iload_n 1, 1) := by decide +kernel
theorem dX10_turnedFrom_25 : decode cX10_turnedFrom 25 = .ok (.iconst 1, 1) := by decide +kernel
theorem dX10_turnedFrom_26 : decode cX10_turnedFrom 26 = .ok (.if_icmp .ne 21, 3) := by decide +kernel
theorem dX10_turnedFrom_29 : decode cX10_turnedFrom 29 = .ok (.aload_n 0, 1) := by decide +kernel
theorem dX10_turnedFrom_30 : decode cX10_turnedFrom 30 = .ok (.iload_n 2, 1) := by decide +kernel
theorem dX10_turnedFrom_31 : decode cX10_turnedFrom 31 = .ok (.aload_n 0, 1) := by decide +kernel
theorem dX10_turnedFrom_32 : decode cX10_turnedFrom 32 = .ok (.getfield 7, 3) := by decide +kernel
theorem dX10_turnedFrom_35 : decode cX10_turnedFrom 35 = .ok (.iconst 1, 1) := by decide +kernel
theorem dX10_turnedFrom_36 : decode cX10_turnedFrom 36 = .ok (.iaload, 1) := by decide +kernel
theorem dX10_turnedFrom_37 : decode cX10_turnedFrom 37 = .ok (.iconst 1, 1) := by decide +kernel
theorem dX10_turnedFrom_38 : decode cX10_turnedFrom 38 = .ok (.isub, 1) := by decide +kernel
theorem dX10_turnedFrom_39 : decode cX10_turnedFrom 39 = .ok (.iload_n 3, 1) := by decide +kernel
theorem dX10_turnedFrom_40 : decode cX10_turnedFrom 40 = .ok (.isub, 1) := by decide +kernel
theorem dX10_turnedFrom_41 : decode cX10_turnedFrom 41 = .ok (.invokevirtual 54, 3) := by decide +kernel
theorem dX10_turnedFrom_44 : decode cX10_turnedFrom 44 = .ok (.goto 23, 3) := by decide +kernel
theorem dX10_turnedFrom_47 : decode cX10_turnedFrom 47 = .ok (.iload_n 1, 1) := by decide +kernel
theorem dX10_turnedFrom_48 : decode cX10_turnedFrom 48 = .ok (.iconst 2, 1) := by decide +kernel
theorem dX10_turnedFrom_49 : decode cX10_turnedFrom 49 = .ok (.if_icmp .ne 12, 3) := by decide +kernel
theorem dX10_turnedFrom_52 : decode cX10_turnedFrom 52 = .ok (.aload_n 0, 1) := by decide +kernel
theorem dX10_turnedFrom_53 : decode cX10_turnedFrom 53 = .ok (.iload_n 3, 1) := by decide +kernel
theorem dX10_turnedFrom_54 : decode cX10_turnedFrom 54 = .ok (.iload_n 2, 1) := by decide +kernel
theorem dX10_turnedFrom_55 : decode cX10_turnedFrom 55 = .ok (.invokevirtual 54, 3) := by decide +kernel
theorem dX10_turnedFrom_58 : decode cX10_turnedFrom 58 = .ok (.goto 9, 3) := by decide +kernel
theorem dX10_turnedFrom_61 : decode cX10_turnedFrom 61 = .ok (.aload_n 0, 1) := by decide +kernel
theorem dX10_turnedFrom_62 : decode cX10_turnedFrom 62 = .ok (.iload_n 2, 1) := by decide +kernel
theorem dX10_turnedFrom_63 : decode cX10_turnedFrom 63 = .ok (.iload_n 3, 1) := by decide +kernel
theorem dX10_turnedFrom_64 : decode cX10_turnedFrom 64 = .ok (.invokevirtual 54, 3) := by decide +kernel
theorem dX10_turnedFrom_67 : decode cX10_turnedFrom 67 = .ok (.iadd, 1) := by decide +kernel
theorem dX10_turnedFrom_68 : decode cX10_turnedFrom 68 = .ok (.istore 4, 2) := by decide +kernel
theorem dX10_turnedFrom_70 : decode cX10_turnedFrom 70 = .ok (.aload_n 0, 1) := by decide +kernel
theorem dX10_turnedFrom_71 : decode cX10_turnedFrom 71 = .ok (.getfield 7, 3) := by decide +kernel
theorem dX10_turnedFrom_74 : decode cX10_turnedFrom 74 = .ok (.iload 4, 2) := by decide +kernel
theorem dX10_turnedFrom_76 : decode cX10_turnedFrom 76 = .ok (.iaload, 1) := by decide +kernel
theorem dX10_turnedFrom_77 : decode cX10_turnedFrom 77 = .ok (.sipush 256, 3) := by decide +kernel
theorem dX10_turnedFrom_80 : decode cX10_turnedFrom 80 = .ok (.irem, 1) := by decide +kernel
theorem dX10_turnedFrom_81 : decode cX10_turnedFrom 81 = .ok (.istore 5, 2) := by decide +kernel
theorem dX10_turnedFrom_83 : decode cX10_turnedFrom 83 = .ok (.iload_n 1, 1) := by decide +kernel
theorem dX10_turnedFrom_84 : decode cX10_turnedFrom 84 = .ok (.iconst 3, 1) := by decide +kernel
theorem dX10_turnedFrom_85 : decode cX10_turnedFrom 85 = .ok (.if_icmp .ne 23, 3) := by decide +kernel
theorem dX10_turnedFrom_88 : decode cX10_turnedFrom 88 = .ok (.aload_n 0, 1) := by decide +kernel
theorem dX10_turnedFrom_89 : decode cX10_turnedFrom 89 = .ok (.getfield 7, 3) := by decide +kernel
theorem dX10_turnedFrom_92 : decode cX10_turnedFrom 92 = .ok (.iload 4, 2) := by decide +kernel
theorem dX10_turnedFrom_94 : decode cX10_turnedFrom 94 = .ok (.iaload, 1) := by decide +kernel
theorem dX10_turnedFrom_95 : decode cX10_turnedFrom 95 = .ok (.iload 5, 2) := by decide +kernel
theorem dX10_turnedFrom_97 : decode cX10_turnedFrom 97 = .ok (.isub, 1) := by decide +kernel
theorem dX10_turnedFrom_98 : decode cX10_turnedFrom 98 = .ok (.sipush 255, 3) := by decide +kernel
theorem dX10_turnedFrom_101 : decode cX10_turnedFrom 101 = .ok (.iadd, 1) := by decide +kernel
theorem dX10_turnedFrom_102 : decode cX10_turnedFrom 102 = .ok (.iload 5, 2) := by decide +kernel
theorem dX10_turnedFrom_104 : decode cX10_turnedFrom 104 = .ok (.isub, 1) := by decide +kernel
theorem dX10_turnedFrom_105 : decode cX10_turnedFrom 105 = .ok (.goto 10, 3) := by decide +kernel
theorem dX10_turnedFrom_108 : decode cX10_turnedFrom 108 = .ok (.aload_n 0, 1) := by decide +kernel
theorem dX10_turnedFrom_109 : decode cX10_turnedFrom 109 = .ok (.getfield 7, 3) := by decide +kernel
theorem dX10_turnedFrom_112 : decode cX10_turnedFrom 112 = .ok (.iload 4, 2) := by decide +kernel
theorem dX10_turnedFrom_114 : decode cX10_turnedFrom 114 = .ok (.iaload, 1) := by decide +kernel
theorem dX10_turnedFrom_115 : decode cX10_turnedFrom 115 = .ok (.ireturn, 1) := by decide +kernel
theorem dX10_turn_0 : decode cX10_turn 0 = .ok (.iload_n 1, 1) := by decide +kernel
theorem dX10_turn_1 : decode cX10_turn 1 = .ok (.i2l, 1) := by decide +kernel
theorem dX10_turn_2 : decode cX10_turn 2 = .ok (.lconst 0, 1) := by decide +kernel
theorem dX10_turn_3 : decode cX10_turn 3 = .ok (.ldc2_w 193, 3) := by decide +kernel
theorem dX10_turn_6 : decode cX10_turn 6 = .ok (.invokestatic 58, 3) := by decide +kernel
theorem dX10_turn_9 : decode cX10_turn 9 = .ok (.ifCond .ne 6, 3) := by decide +kernel
theorem dX10_turn_12 : decode cX10_turn 12 = .ok (.ldc 110, 2) := by decide +kernel
theorem dX10_turn_14 : decode cX10_turn 14 = .ok (.ireturn, 1) := by decide +kernel
theorem dX10_turn_15 : decode cX10_turn 15 = .ok (.iload_n 1, 1) := by decide +kernel
theorem dX10_turn_16 : decode cX10_turn 16 = .ok (.iconst 2, 1) := by decide +kernel
theorem dX10_turn_17 : decode cX10_turn 17 = .ok (.if_icmp .ne 28, 3) := by decide +kernel
theorem dX10_turn_20 : decode cX10_turn 20 = .ok (.aload_n 0, 1) := by decide +kernel
theorem dX10_turn_21 : decode cX10_turn 21 = .ok (.getfield 7, 3) := by decide +kernel
theorem dX10_turn_24 : decode cX10_turn 24 = .ok (.iconst 0, 1) := by decide +kernel
theorem dX10_turn_25 : decode cX10_turn 25 = .ok (.iaload, 1) := by decide +kernel
theorem dX10_turn_26 : decode cX10_turn 26 = .ok (.bipush 8, 2) := by decide +kernel
theorem dX10_turn_28 : decode cX10_turn 28 = .ok (.if_icmp .gt 14, 3) := by decide +kernel
theorem dX10_turn_31 : decode cX10_turn 31 = .ok (.aload_n 0, 1) := by decide +kernel
theorem dX10_turn_32 : decode cX10_turn 32 = .ok (.getfield 7, 3) := by decide +kernel
theorem dX10_turn_35 : decode cX10_turn 35 = .ok (.iconst 1, 1) := by decide +kernel
theorem dX10_turn_36 : decode cX10_turn 36 = .ok (.iaload, 1) := by decide +kernel
theorem dX10_turn_37 : decode cX10_turn 37 = .ok (.bipush 10, 2) := by decide +kernel
theorem dX10_turn_39 : decode cX10_turn 39 = .ok (.if_icmp .le 6, 3) := by decide +kernel
theorem dX10_turn_42 : decode cX10_turn 42 = .ok (.ldc 195, 2) := by decide +kernel
theorem dX10_turn_44 : decode cX10_turn 44 = .ok (.ireturn, 1) := by decide +kernel
theorem dX10_turn_45 : decode cX10_turn 45 = .ok (.aload_n 0, 1) := by decide +kernel
theorem dX10_turn_46 : decode cX10_turn 46 = .ok (.invokevirtual 115, 3) := by decide +kernel
theorem dX10_turn_49 : decode cX10_turn 49 = .ok (.iload_n 1, 1) := by decide +kernel
theorem dX10_turn_50 : decode cX10_turn 50 = .ok (.iconst 2, 1) := by decide +kernel
theorem dX10_turn_51 : decode cX10_turn 51 = .ok (.if_icmp .ne 29, 3) := by decide +kernel
theorem dX10_turn_54 : decode cX10_turn 54 = .ok (.aload_n 0, 1) := by decide +kernel
theorem dX10_turn_55 : decode cX10_turn 55 = .ok (.getfield 7, 3) := by decide +kernel
theorem dX10_turn_58 : decode cX10_turn 58 = .ok (.iconst 0, 1) := by decide +kernel
theorem dX10_turn_59 : decode cX10_turn 59 = .ok (.iaload, 1) := by decide +kernel
theorem dX10_turn_60 : decode cX10_turn 60 = .ok (.istore_n 2, 1) := by decide +kernel
theorem dX10_turn_61 : decode cX10_turn 61 = .ok (.aload_n 0, 1) := by decide +kernel
theorem dX10_turn_62 : decode cX10_turn 62 = .ok (.getfield 7, 3) := by decide +kernel
theorem dX10_turn_65 : decode cX10_turn 65 = .ok (.iconst 0, 1) := by decide +kernel
theorem dX10_turn_66 : decode cX10_turn 66 = .ok (.aload_n 0, 1) := by decide +kernel
theorem dX10_turn_67 : decode cX10_turn 67 = .ok (.getfield 7, 3) := by decide +kernel
theorem dX10_turn_70 : decode cX10_turn 70 = .ok (.iconst 1, 1) := by decide +kernel
theorem dX10_turn_71 : decode cX10_turn 71 = .ok (.iaload, 1) := by decide +kernel
theorem dX10_turn_72 : decode cX10_turn 72 = .ok (.iastore, 1) := by decide +kernel
theorem dX10_turn_73 : decode cX10_turn 73 = .ok (.aload_n 0, 1) := by decide +kernel
theorem dX10_turn_74 : decode cX10_turn 74 = .ok (.getfield 7, 3) := by decide +kernel
theorem dX10_turn_77 : decode cX10_turn 77 = .ok (.iconst 1, 1) := by decide +kernel
theorem dX10_turn_78 : decode cX10_turn 78 = .ok (.iload_n 2, 1) := by decide +kernel
theorem dX10_turn_79 : decode cX10_turn 79 = .ok (.iastore, 1) := by decide +kernel
theorem dX10_turn_80 : decode cX10_turn 80 = .ok (.iconst 0, 1) := by decide +kernel
theorem dX10_turn_81 : decode cX10_turn 81 = .ok (.istore_n 2, 1) := by decide +kernel
theorem dX10_turn_82 : decode cX10_turn 82 = .ok (.iload_n 2, 1) := by decide +kernel
theorem dX10_turn_83 : decode cX10_turn 83 = .ok (.aload_n 0, 1) := by decide +kernel
theorem dX10_turn_84 : decode cX10_turn 84 = .ok (.getfield 7, 3) := by decide +kernel
theorem dX10_turn_87 : decode cX10_turn 87 = .ok (.iconst 1, 1) := by decide +kernel
theorem dX10_turn_88 : decode cX10_turn 88 = .ok (.iaload, 1) := by decide +kernel
theorem dX10_turn_89 : decode cX10_turn 89 = .ok (.if_icmp .ge 45, 3) := by decide +kernel
theorem dX10_turn_92 : decode cX10_turn 92 = .ok (.iconst 0, 1) := by decide +kernel
theorem dX10_turn_93 : decode cX10_turn 93 = .ok (.istore_n 3, 1) := by decide +kernel
theorem dX10_turn_94 : decode cX10_turn 94 = .ok (.iload_n 3, 1) := by decide +kernel
theorem dX10_turn_95 : decode cX10_turn 95 = .ok (.aload_n 0, 1) := by decide +kernel
theorem dX10_turn_96 : decode cX10_turn 96 = .ok (.getfield 7, 3) := by decide +kernel
theorem dX10_turn_99 : decode cX10_turn 99 = .ok (.iconst 0, 1) := by decide +kernel
theorem dX10_turn_100 : decode cX10_turn 100 = .ok (.iaload, 1) := by decide +kernel
theorem dX10_turn_101 : decode cX10_turn 101 = .ok (.if_icmp .ge 27, 3) := by decide +kernel
theorem dX10_turn_104 : decode cX10_turn 104 = .ok (.aload_n 0, 1) := by decide +kernel
theorem dX10_turn_105 : decode cX10_turn 105 = .ok (.getfield 7, 3) := by decide +kernel
theorem dX10_turn_108 : decode cX10_turn 108 = .ok (.aload_n 0, 1) := by decide +kernel
theorem dX10_turn_109 : decode cX10_turn 109 = .ok (.iload_n 3, 1) := by decide +kernel
theorem dX10_turn_110 : decode cX10_turn 110 = .ok (.iload_n 2, 1) := by decide +kernel
theorem dX10_turn_111 : decode cX10_turn 111 = .ok (.invokevirtual 54, 3) := by decide +kernel
theorem dX10_turn_114 : decode cX10_turn 114 = .ok (.aload_n 0, 1) := by decide +kernel
theorem dX10_turn_115 : decode cX10_turn 115 = .ok (.iload_n 1, 1) := by decide +kernel
theorem dX10_turn_116 : decode cX10_turn 116 = .ok (.iload_n 3, 1) := by decide +kernel
theorem dX10_turn_117 : decode cX10_turn 117 = .ok (.iload_n 2, 1) := by decide +kernel
theorem dX10_turn_118 : decode cX10_turn 118 = .ok (.invokevirtual 196, 3) := by decide +kernel
theorem dX10_turn_121 : decode cX10_turn 121 = .ok (.iastore, 1) := by decide +kernel
theorem dX10_turn_122 : decode cX10_turn 122 = .ok (.iinc 3 1, 3) := by decide +kernel
theorem dX10_turn_125 : decode cX10_turn 125 = .ok (.goto (-31), 3) := by decide +kernel
theorem dX10_turn_128 : decode cX10_turn 128 = .ok (.iinc 2 1, 3) := by decide +kernel
theorem dX10_turn_131 : decode cX10_turn 131 = .ok (.goto (-49), 3) := by decide +kernel
theorem dX10_turn_134 : decode cX10_turn 134 = .ok (.aload_n 0, 1) := by decide +kernel
theorem dX10_turn_135 : decode cX10_turn 135 = .ok (.getfield 7, 3) := by decide +kernel
theorem dX10_turn_138 : decode cX10_turn 138 = .ok (.iconst 0, 1) := by decide +kernel
theorem dX10_turn_139 : decode cX10_turn 139 = .ok (.iaload, 1) := by decide +kernel
theorem dX10_turn_140 : decode cX10_turn 140 = .ok (.ireturn, 1) := by decide +kernel
theorem dX10_filtered_0 : decode cX10_filtered 0 = .ok (.aload_n 0, 1) := by decide +kernel
theorem dX10_filtered_1 : decode cX10_filtered 1 = .ok (.iload_n 1, 1) := by decide +kernel
theorem dX10_filtered_2 : decode cX10_filtered 2 = .ok (.invokevirtual 186, 3) := by decide +kernel
theorem dX10_filtered_5 : decode cX10_filtered 5 = .ok (.ifCond .ne 6, 3) := by decide +kernel
theorem dX10_filtered_8 : decode cX10_filtered 8 = .ok (.ldc 175, 2) := by decide +kernel
theorem dX10_filtered_10 : decode cX10_filtered 10 = .ok (.ireturn, 1) := by decide +kernel
theorem dX10_filtered_11 : decode cX10_filtered 11 = .ok (.aload_n 0, 1) := by decide +kernel
theorem dX10_filtered_12 : decode cX10_filtered 12 = .ok (.invokevirtual 115, 3) := by decide +kernel
theorem dX10_filtered_15 : decode cX10_filtered 15 = .ok (.aload_n 0, 1) := by decide +kernel
theorem dX10_filtered_16 : decode cX10_filtered 16 = .ok (.iload_n 1, 1) := by decide +kernel
theorem dX10_filtered_17 : decode cX10_filtered 17 = .ok (.invokevirtual 199, 3) := by decide +kernel
theorem dX10_filtered_20 : decode cX10_filtered 20 = .ok (.ireturn, 1) := by decide +kernel
theorem dX10_all_0 : decode cX10_all 0 = .ok (.aload_n 0, 1) := by decide +kernel
theorem dX10_all_1 : decode cX10_all 1 = .ok (.getfield 20, 3) := by decide +kernel
theorem dX10_all_4 : decode cX10_all 4 = .ok (.iconst 0, 1) := by decide +kernel
theorem dX10_all_5 : decode cX10_all 5 = .ok (.iaload, 1) := by decide +kernel
theorem dX10_all_6 : decode cX10_all 6 = .ok (.ifCond .ne 6, 3) := by decide +kernel
theorem dX10_all_9 : decode cX10_all 9 = .ok (.ldc 195, 2) := by decide +kernel
theorem dX10_all_11 : decode cX10_all 11 = .ok (.ireturn, 1) := by decide +kernel
theorem dX10_all_12 : decode cX10_all 12 = .ok (.aload_n 0, 1) := by decide +kernel
theorem dX10_all_13 : decode cX10_all 13 = .ok (.invokevirtual 115, 3) := by decide +kernel
theorem dX10_all_16 : decode cX10_all 16 = .ok (.iconst 0, 1) := by decide +kernel
theorem dX10_all_17 : decode cX10_all 17 = .ok (.istore_n 1, 1) := by decide +kernel
theorem dX10_all_18 : decode cX10_all 18 = .ok (.iconst 0, 1) := by decide +kernel
theorem dX10_all_19 : decode cX10_all 19 = .ok (.istore_n 2, 1) := by decide +kernel
theorem dX10_all_20 : decode cX10_all 20 = .ok (.iload_n 2, 1) := by decide +kernel
theorem dX10_all_21 : decode cX10_all 21 = .ok (.aload_n 0, 1) := by decide +kernel
theorem dX10_all_22 : decode cX10_all 22 = .ok (.getfield 20, 3) := by decide +kernel
theorem dX10_all_25 : decode cX10_all 25 = .ok (.iconst 0, 1) := by decide +kernel
theorem dX10_all_26 : decode cX10_all 26 = .ok (.iaload, 1) := by decide +kernel
theorem dX10_all_27 : decode cX10_all 27 = .ok (.if_icmp .ge 17, 3) := by decide +kernel
theorem dX10_all_30 : decode cX10_all 30 = .ok (.iload_n 1, 1) := by decide +kernel
theorem dX10_all_31 : decode cX10_all 31 = .ok (.aload_n 0, 1) := by decide +kernel
theorem dX10_all_32 : decode cX10_all 32 = .ok (.iload_n 2, 1) := by decide +kernel
theorem dX10_all_33 : decode cX10_all 33 = .ok (.invokevirtual 199, 3) := by decide +kernel
theorem dX10_all_36 : decode cX10_all 36 = .ok (.iadd, 1) := by decide +kernel
theorem dX10_all_37 : decode cX10_all 37 = .ok (.istore_n 1, 1) := by decide +kernel
theorem dX10_all_38 : decode cX10_all 38 = .ok (.iinc 2 1, 3) := by decide +kernel
theorem dX10_all_41 : decode cX10_all 41 = .ok (.goto (-21), 3) := by decide +kernel
theorem dX10_all_44 : decode cX10_all 44 = .ok (.iconst 0, 1) := by decide +kernel
theorem dX10_all_45 : decode cX10_all 45 = .ok (.istore_n 2, 1) := by decide +kernel
theorem dX10_all_46 : decode cX10_all 46 = .ok (.iconst 2, 1) := by decide +kernel
theorem dX10_all_47 : decode cX10_all 47 = .ok (.istore_n 3, 1) := by decide +kernel
theorem dX10_all_48 : decode cX10_all 48 = .ok (.iload_n 3, 1) := by decide +kernel
theorem dX10_all_49 : decode cX10_all 49 = .ok (.bipush 82, 2) := by decide +kernel
theorem dX10_all_51 : decode cX10_all 51 = .ok (.if_icmp .ge 81, 3) := by decide +kernel
theorem dX10_all_54 : decode cX10_all 54 = .ok (.iload_n 1, 1) := by decide +kernel
theorem dX10_all_55 : decode cX10_all 55 = .ok (.ifCond .le 77, 3) := by decide +kernel
theorem dX10_all_58 : decode cX10_all 58 = .ok (.iload_n 3, 1) := by decide +kernel
theorem dX10_all_59 : decode cX10_all 59 = .ok (.iconst 2, 1) := by decide +kernel
theorem dX10_all_60 : decode cX10_all 60 = .ok (.isub, 1) := by decide +kernel
theorem dX10_all_61 : decode cX10_all 61 = .ok (.bipush 10, 2) := by decide +kernel
theorem dX10_all_63 : decode cX10_all 63 = .ok (.irem, 1) := by decide +kernel
theorem dX10_all_64 : decode cX10_all 64 = .ok (.aload_n 0, 1) := by decide +kernel
theorem dX10_all_65 : decode cX10_all 65 = .ok (.getfield 7, 3) := by decide +kernel
theorem dX10_all_68 : decode cX10_all 68 = .ok (.iconst 0, 1) := by decide +kernel
theorem dX10_all_69 : decode cX10_all 69 = .ok (.iaload, 1) := by decide +kernel
theorem dX10_all_70 : decode cX10_all 70 = .ok (.if_icmp .ge 22, 3) := by decide +kernel
theorem dX10_all_73 : decode cX10_all 73 = .ok (.iload_n 3, 1) := by decide +kernel
theorem dX10_all_74 : decode cX10_all 74 = .ok (.iconst 2, 1) := by decide +kernel
theorem dX10_all_75 : decode cX10_all 75 = .ok (.isub, 1) := by decide +kernel
theorem dX10_all_76 : decode cX10_all 76 = .ok (.bipush 10, 2) := by decide +kernel
theorem dX10_all_78 : decode cX10_all 78 = .ok (.idiv, 1) := by decide +kernel
theorem dX10_all_79 : decode cX10_all 79 = .ok (.aload_n 0, 1) := by decide +kernel
theorem dX10_all_80 : decode cX10_all 80 = .ok (.getfield 7, 3) := by decide +kernel
theorem dX10_all_83 : decode cX10_all 83 = .ok (.iconst 1, 1) := by decide +kernel
theorem dX10_all_84 : decode cX10_all 84 = .ok (.iaload, 1) := by decide +kernel
theorem dX10_all_85 : decode cX10_all 85 = .ok (.if_icmp .ge 7, 3) := by decide +kernel
theorem dX10_all_88 : decode cX10_all 88 = .ok (.iconst 1, 1) := by decide +kernel
theorem dX10_all_89 : decode cX10_all 89 = .ok (.goto 4, 3) := by decide +kernel
theorem dX10_all_92 : decode cX10_all 92 = .ok (.iconst 0, 1) := by decide +kernel
theorem dX10_all_93 : decode cX10_all 93 = .ok (.istore 4, 2) := by decide +kernel
theorem dX10_all_95 : decode cX10_all 95 = .ok (.iload_n 2, 1) := by decide +kernel
theorem dX10_all_96 : decode cX10_all 96 = .ok (.iload 4, 2) := by decide +kernel
theorem dX10_all_98 : decode cX10_all 98 = .ok (.ifCond .eq 25, 3) := by decide +kernel
theorem dX10_all_101 : decode cX10_all 101 = .ok (.aload_n 0, 1) := by decide +kernel
theorem dX10_all_102 : decode cX10_all 102 = .ok (.getfield 7, 3) := by decide +kernel
theorem dX10_all_105 : decode cX10_all 105 = .ok (.iload_n 3, 1) := by decide +kernel
theorem dX10_all_106 : decode cX10_all 106 = .ok (.iaload, 1) := by decide +kernel
theorem dX10_all_107 : decode cX10_all 107 = .ok (.aload_n 0, 1) := by decide +kernel
theorem dX10_all_108 : decode cX10_all 108 = .ok (.getfield 7, 3) := by decide +kernel
theorem dX10_all_111 : decode cX10_all 111 = .ok (.bipush 82, 2) := by decide +kernel
theorem dX10_all_113 : decode cX10_all 113 = .ok (.iload_n 3, 1) := by decide +kernel
theorem dX10_all_114 : decode cX10_all 114 = .ok (.iadd, 1) := by decide +kernel
theorem dX10_all_115 : decode cX10_all 115 = .ok (.iaload, 1) := by decide +kernel
theorem dX10_all_116 : decode cX10_all 116 = .ok (.if_icmp .eq 7, 3) := by decide +kernel
theorem dX10_all_119 : decode cX10_all 119 = .ok (.iconst 1, 1) := by decide +kernel
theorem dX10_all_120 : decode cX10_all 120 = .ok (.goto 4, 3) := by decide +kernel
theorem dX10_all_123 : decode cX10_all 123 = .ok (.iconst 0, 1) := by decide +kernel
theorem dX10_all_124 : decode cX10_all 124 = .ok (.iadd, 1) := by decide +kernel
theorem dX10_all_125 : decode cX10_all 125 = .ok (.istore_n 2, 1) := by decide +kernel
theorem dX10_all_126 : decode cX10_all 126 = .ok (.iinc 3 1, 3) := by decide +kernel
theorem dX10_all_129 : decode cX10_all 129 = .ok (.goto (-81), 3) := by decide +kernel
theorem dX10_all_132 : decode cX10_all 132 = .ok (.iload_n 2, 1) := by decide +kernel
theorem dX10_all_133 : decode cX10_all 133 = .ok (.ireturn, 1) := by decide +kernel
theorem dX10_until_0 : decode cX10_until 0 = .ok (.aload_n 0, 1) := by decide +kernel
theorem dX10_until_1 : decode cX10_until 1 = .ok (.iload_n 1, 1) := by decide +kernel
theorem dX10_until_2 : decode cX10_until 2 = .ok (.invokevirtual 186, 3) := by decide +kernel
theorem dX10_until_5 : decode cX10_until 5 = .ok (.ifCond .ne 6, 3) := by decide +kernel
theorem dX10_until_8 : decode cX10_until 8 = .ok (.ldc 175, 2) := by decide +kernel
theorem dX10_until_10 : decode cX10_until 10 = .ok (.ireturn, 1) := by decide +kernel
theorem dX10_until_11 : decode cX10_until 11 = .ok (.iload_n 2, 1) := by decide +kernel
theorem dX10_until_12 : decode cX10_until 12 = .ok (.i2l, 1) := by decide +kernel
theorem dX10_until_13 : decode cX10_until 13 = .ok (.lconst 1, 1) := by decide +kernel
theorem dX10_until_14 : decode cX10_until 14 = .ok (.ldc2_w 202, 3) := by decide +kernel
theorem dX10_until_17 : decode cX10_until 17 = .ok (.invokestatic 58, 3) := by decide +kernel
theorem dX10_until_20 : decode cX10_until 20 = .ok (.ifCond .ne 6, 3) := by decide +kernel
theorem dX10_until_23 : decode cX10_until 23 = .ok (.ldc 110, 2) := by decide +kernel
theorem dX10_until_25 : decode cX10_until 25 = .ok (.ireturn, 1) := by decide +kernel
theorem dX10_until_26 : decode cX10_until 26 = .ok (.aload_n 0, 1) := by decide +kernel
theorem dX10_until_27 : decode cX10_until 27 = .ok (.invokevirtual 115, 3) := by decide +kernel
theorem dX10_until_30 : decode cX10_until 30 = .ok (.iconst 0, 1) := by decide +kernel
theorem dX10_until_31 : decode cX10_until 31 = .ok (.istore_n 3, 1) := by decide +kernel
theorem dX10_until_32 : decode cX10_until 32 = .ok (.iload_n 3, 1) := by decide +kernel
theorem dX10_until_33 : decode cX10_until 33 = .ok (.iload_n 2, 1) := by decide +kernel
theorem dX10_until_34 : decode cX10_until 34 = .ok (.if_icmp .ge 17, 3) := by decide +kernel
theorem dX10_until_37 : decode cX10_until 37 = .ok (.aload_n 0, 1) := by decide +kernel
theorem dX10_until_38 : decode cX10_until 38 = .ok (.iload_n 1, 1) := by decide +kernel
theorem dX10_until_39 : decode cX10_until 39 = .ok (.invokevirtual 199, 3) := by decide +kernel
theorem dX10_until_42 : decode cX10_until 42 = .ok (.ifCond .le 9, 3) := by decide +kernel
theorem dX10_until_45 : decode cX10_until 45 = .ok (.iinc 3 1, 3) := by decide +kernel
theorem dX10_until_48 : decode cX10_until 48 = .ok (.goto (-16), 3) := by decide +kernel
theorem dX10_until_51 : decode cX10_until 51 = .ok (.iload_n 3, 1) := by decide +kernel
theorem dX10_until_52 : decode cX10_until 52 = .ok (.ireturn, 1) := by decide +kernel
theorem dX10_draw_0 : decode cX10_draw 0 = .ok (.aload_n 0, 1) := by decide +kernel
theorem dX10_draw_1 : decode cX10_draw 1 = .ok (.aload_n 0, 1) := by decide +kernel
theorem dX10_draw_2 : decode cX10_draw 2 = .ok (.getfield 204, 3) := by decide +kernel
theorem dX10_draw_5 : decode cX10_draw 5 = .ok (.i2l, 1) := by decide +kernel
theorem dX10_draw_6 : decode cX10_draw 6 = .ok (.ldc2_w 207, 3) := by decide +kernel
theorem dX10_draw_9 : decode cX10_draw 9 = .ok (.lmul, 1) := by decide +kernel
theorem dX10_draw_10 : decode cX10_draw 10 = .ok (.ldc2_w 209, 3) := by decide +kernel
theorem dX10_draw_13 : decode cX10_draw 13 = .ok (.ladd, 1) := by decide +kernel
theorem dX10_draw_14 : decode cX10_draw 14 = .ok (.ldc2_w 211, 3) := by decide +kernel
theorem dX10_draw_17 : decode cX10_draw 17 = .ok (.lrem, 1) := by decide +kernel
theorem dX10_draw_18 : decode cX10_draw 18 = .ok (.l2i, 1) := by decide +kernel
theorem dX10_draw_19 : decode cX10_draw 19 = .ok (.putfield 204, 3) := by decide +kernel
theorem dX10_draw_22 : decode cX10_draw 22 = .ok (.aload_n 0, 1) := by decide +kernel
theorem dX10_draw_23 : decode cX10_draw 23 = .ok (.getfield 204, 3) := by decide +kernel
theorem dX10_draw_26 : decode cX10_draw 26 = .ok (.ldc 213, 2) := by decide +kernel
theorem dX10_draw_28 : decode cX10_draw 28 = .ok (.idiv, 1) := by decide +kernel
theorem dX10_draw_29 : decode cX10_draw 29 = .ok (.iload_n 1, 1) := by decide +kernel
theorem dX10_draw_30 : decode cX10_draw 30 = .ok (.irem, 1) := by decide +kernel
theorem dX10_draw_31 : decode cX10_draw 31 = .ok (.ireturn, 1) := by decide +kernel
theorem dX10_noise_0 : decode cX10_noise 0 = .ok (.iload_n 1, 1) := by decide +kernel
theorem dX10_noise_1 : decode cX10_noise 1 = .ok (.i2l, 1) := by decide +kernel
theorem dX10_noise_2 : decode cX10_noise 2 = .ok (.lconst 1, 1) := by decide +kernel
theorem dX10_noise_3 : decode cX10_noise 3 = .ok (.ldc2_w 214, 3) := by decide +kernel
theorem dX10_noise_6 : decode cX10_noise 6 = .ok (.invokestatic 58, 3) := by decide +kernel
theorem dX10_noise_9 : decode cX10_noise 9 = .ok (.ifCond .ne 6, 3) := by decide +kernel
theorem dX10_noise_12 : decode cX10_noise 12 = .ok (.ldc 110, 2) := by decide +kernel
theorem dX10_noise_14 : decode cX10_noise 14 = .ok (.ireturn, 1) := by decide +kernel
theorem dX10_noise_15 : decode cX10_noise 15 = .ok (.iconst 0, 1) := by decide +kernel
theorem dX10_noise_16 : decode cX10_noise 16 = .ok (.istore_n 2, 1) := by decide +kernel
theorem dX10_noise_17 : decode cX10_noise 17 = .ok (.iload_n 2, 1) := by decide +kernel
theorem dX10_noise_18 : decode cX10_noise 18 = .ok (.iload_n 1, 1) := by decide +kernel
theorem dX10_noise_19 : decode cX10_noise 19 = .ok (.if_icmp .ge 78, 3) := by decide +kernel
theorem dX10_noise_22 : decode cX10_noise 22 = .ok (.aload_n 0, 1) := by decide +kernel
theorem dX10_noise_23 : decode cX10_noise 23 = .ok (.invokevirtual 115, 3) := by decide +kernel
theorem dX10_noise_26 : decode cX10_noise 26 = .ok (.aload_n 0, 1) := by decide +kernel
theorem dX10_noise_27 : decode cX10_noise 27 = .ok (.aload_n 0, 1) := by decide +kernel
theorem dX10_noise_28 : decode cX10_noise 28 = .ok (.getfield 7, 3) := by decide +kernel
theorem dX10_noise_31 : decode cX10_noise 31 = .ok (.iconst 0, 1) := by decide +kernel
theorem dX10_noise_32 : decode cX10_noise 32 = .ok (.iaload, 1) := by decide +kernel
theorem dX10_noise_33 : decode cX10_noise 33 = .ok (.invokevirtual 216, 3) := by decide +kernel
theorem dX10_noise_36 : decode cX10_noise 36 = .ok (.istore_n 3, 1) := by decide +kernel
theorem dX10_noise_37 : decode cX10_noise 37 = .ok (.aload_n 0, 1) := by decide +kernel
theorem dX10_noise_38 : decode cX10_noise 38 = .ok (.aload_n 0, 1) := by decide +kernel
theorem dX10_noise_39 : decode cX10_noise 39 = .ok (.getfield 7, 3) := by decide +kernel
theorem dX10_noise_42 : decode cX10_noise 42 = .ok (.iconst 1, 1) := by decide +kernel
theorem dX10_noise_43 : decode cX10_noise 43 = .ok (.iaload, 1) := by decide +kernel
theorem dX10_noise_44 : decode cX10_noise 44 = .ok (.invokevirtual 216, 3) := by decide +kernel
theorem dX10_noise_47 : decode cX10_noise 47 = .ok (.istore 4, 2) := by decide +kernel
theorem dX10_noise_49 : decode cX10_noise 49 = .ok (.aload_n 0, 1) := by decide +kernel
theorem dX10_noise_50 : decode cX10_noise 50 = .ok (.iconst 3, 1) := by decide +kernel
theorem dX10_noise_51 : decode cX10_noise 51 = .ok (.invokevirtual 216, 3) := by decide +kernel
theorem dX10_noise_54 : decode cX10_noise 54 = .ok (.istore 5, 2) := by decide +kernel
theorem dX10_noise_56 : decode cX10_noise 56 = .ok (.aload_n 0, 1) := by decide +kernel
theorem dX10_noise_57 : decode cX10_noise 57 = .ok (.iload_n 3, 1) := by decide +kernel
theorem dX10_noise_58 : decode cX10_noise 58 = .ok (.iload 4, 2) := by decide +kernel
theorem dX10_noise_60 : decode cX10_noise 60 = .ok (.iload 5, 2) := by decide +kernel
theorem dX10_noise_62 : decode cX10_noise 62 = .ok (.ifCond .ne 7, 3) := by decide +kernel
theorem dX10_noise_65 : decode cX10_noise 65 = .ok (.iconst 0, 1) := by decide +kernel
theorem dX10_noise_66 : decode cX10_noise 66 = .ok (.goto 22, 3) := by decide +kernel
theorem dX10_noise_69 : decode cX10_noise 69 = .ok (.iload 5, 2) := by decide +kernel
theorem dX10_noise_71 : decode cX10_noise 71 = .ok (.iconst 1, 1) := by decide +kernel
theorem dX10_noise_72 : decode cX10_noise 72 = .ok (.if_icmp .ne 9, 3) := by decide +kernel
theorem dX10_noise_75 : decode cX10_noise 75 = .ok (.sipush 255, 3) := by decide +kernel
theorem dX10_noise_78 : decode cX10_noise 78 = .ok (.goto 10, 3) := by decide +kernel
theorem dX10_noise_81 : decode cX10_noise 81 = .ok (.aload_n 0, 1) := by decide +kernel
theorem dX10_noise_82 : decode cX10_noise 82 = .ok (.sipush 256, 3) := by decide +kernel
theorem dX10_noise_85 : decode cX10_noise 85 = .ok (.invokevirtual 216, 3) := by decide +kernel
theorem dX10_noise_88 : decode cX10_noise 88 = .ok (.invokevirtual 160, 3) := by decide +kernel
theorem dX10_noise_91 : decode cX10_noise 91 = .ok (.iinc 2 1, 3) := by decide +kernel
theorem dX10_noise_94 : decode cX10_noise 94 = .ok (.goto (-77), 3) := by decide +kernel
theorem dX10_noise_97 : decode cX10_noise 97 = .ok (.aload_n 0, 1) := by decide +kernel
theorem dX10_noise_98 : decode cX10_noise 98 = .ok (.getfield 204, 3) := by decide +kernel
theorem dX10_noise_101 : decode cX10_noise 101 = .ok (.ireturn, 1) := by decide +kernel
theorem dX10_undo_0 : decode cX10_undo 0 = .ok (.iload_n 1, 1) := by decide +kernel
theorem dX10_undo_1 : decode cX10_undo 1 = .ok (.i2l, 1) := by decide +kernel
theorem dX10_undo_2 : decode cX10_undo 2 = .ok (.lconst 1, 1) := by decide +kernel
theorem dX10_undo_3 : decode cX10_undo 3 = .ok (.ldc2_w 219, 3) := by decide +kernel
theorem dX10_undo_6 : decode cX10_undo 6 = .ok (.invokestatic 58, 3) := by decide +kernel
theorem dX10_undo_9 : decode cX10_undo 9 = .ok (.ifCond .ne 6, 3) := by decide +kernel
theorem dX10_undo_12 : decode cX10_undo 12 = .ok (.ldc 110, 2) := by decide +kernel
theorem dX10_undo_14 : decode cX10_undo 14 = .ok (.ireturn, 1) := by decide +kernel
theorem dX10_undo_15 : decode cX10_undo 15 = .ok (.iload_n 1, 1) := by decide +kernel
theorem dX10_undo_16 : decode cX10_undo 16 = .ok (.aload_n 0, 1) := by decide +kernel
theorem dX10_undo_17 : decode cX10_undo 17 = .ok (.getfield 51, 3) := by decide +kernel
theorem dX10_undo_20 : decode cX10_undo 20 = .ok (.if_icmp .le 6, 3) := by decide +kernel
theorem dX10_undo_23 : decode cX10_undo 23 = .ok (.ldc 195, 2) := by decide +kernel
theorem dX10_undo_25 : decode cX10_undo 25 = .ok (.ireturn, 1) := by decide +kernel
theorem dX10_undo_26 : decode cX10_undo 26 = .ok (.iconst 0, 1) := by decide +kernel
theorem dX10_undo_27 : decode cX10_undo 27 = .ok (.istore_n 2, 1) := by decide +kernel
theorem dX10_undo_28 : decode cX10_undo 28 = .ok (.iload_n 2, 1) := by decide +kernel
theorem dX10_undo_29 : decode cX10_undo 29 = .ok (.iload_n 1, 1) := by decide +kernel
theorem dX10_undo_30 : decode cX10_undo 30 = .ok (.iadd, 1) := by decide +kernel
theorem dX10_undo_31 : decode cX10_undo 31 = .ok (.bipush 16, 2) := by decide +kernel
theorem dX10_undo_33 : decode cX10_undo 33 = .ok (.if_icmp .gt 23, 3) := by decide +kernel
theorem dX10_undo_36 : decode cX10_undo 36 = .ok (.aload_n 0, 1) := by decide +kernel
theorem dX10_undo_37 : decode cX10_undo 37 = .ok (.bipush 82, 2) := by decide +kernel
theorem dX10_undo_39 : decode cX10_undo 39 = .ok (.iload_n 2, 1) := by decide +kernel
theorem dX10_undo_40 : decode cX10_undo 40 = .ok (.iload_n 1, 1) := by decide +kernel
theorem dX10_undo_41 : decode cX10_undo 41 = .ok (.iadd, 1) := by decide +kernel
theorem dX10_undo_42 : decode cX10_undo 42 = .ok (.imul, 1) := by decide +kernel
theorem dX10_undo_43 : decode cX10_undo 43 = .ok (.bipush 82, 2) := by decide +kernel
theorem dX10_undo_45 : decode cX10_undo 45 = .ok (.iload_n 2, 1) := by decide +kernel
theorem dX10_undo_46 : decode cX10_undo 46 = .ok (.imul, 1) := by decide +kernel
theorem dX10_undo_47 : decode cX10_undo 47 = .ok (.invokevirtual 47, 3) := by decide +kernel
theorem dX10_undo_50 : decode cX10_undo 50 = .ok (.iinc 2 1, 3) := by decide +kernel
theorem dX10_undo_53 : decode cX10_undo 53 = .ok (.goto (-25), 3) := by decide +kernel
theorem dX10_undo_56 : decode cX10_undo 56 = .ok (.aload_n 0, 1) := by decide +kernel
theorem dX10_undo_57 : decode cX10_undo 57 = .ok (.dup, 1) := by decide +kernel
theorem dX10_undo_58 : decode cX10_undo 58 = .ok (.getfield 51, 3) := by decide +kernel
theorem dX10_undo_61 : decode cX10_undo 61 = .ok (.iload_n 1, 1) := by decide +kernel
theorem dX10_undo_62 : decode cX10_undo 62 = .ok (.isub, 1) := by decide +kernel
theorem dX10_undo_63 : decode cX10_undo 63 = .ok (.putfield 51, 3) := by decide +kernel
theorem dX10_undo_66 : decode cX10_undo 66 = .ok (.aload_n 0, 1) := by decide +kernel
theorem dX10_undo_67 : decode cX10_undo 67 = .ok (.getfield 51, 3) := by decide +kernel
theorem dX10_undo_70 : decode cX10_undo 70 = .ok (.ireturn, 1) := by decide +kernel
theorem dX10_write_0 : decode cX10_write 0 = .ok (.aload_n 0, 1) := by decide +kernel
theorem dX10_write_1 : decode cX10_write 1 = .ok (.iload_n 1, 1) := by decide +kernel
theorem dX10_write_2 : decode cX10_write 2 = .ok (.iload_n 2, 1) := by decide +kernel
theorem dX10_write_3 : decode cX10_write 3 = .ok (.invokevirtual 140, 3) := by decide +kernel
theorem dX10_write_6 : decode cX10_write 6 = .ok (.ifCond .ne 6, 3) := by decide +kernel
theorem dX10_write_9 : decode cX10_write 9 = .ok (.ldc 175, 2) := by decide +kernel
theorem dX10_write_11 : decode cX10_write 11 = .ok (.ireturn, 1) := by decide +kernel
theorem dX10_write_12 : decode cX10_write 12 = .ok (.aload_n 0, 1) := by decide +kernel
theorem dX10_write_13 : decode cX10_write 13 = .ok (.getfield 163, 3) := by decide +kernel
theorem dX10_write_16 : decode cX10_write 16 = .ok (.bipush 20, 2) := by decide +kernel
theorem dX10_write_18 : decode cX10_write 18 = .ok (.if_icmp .ne 6, 3) := by decide +kernel
theorem dX10_write_21 : decode cX10_write 21 = .ok (.ldc 111, 2) := by decide +kernel
theorem dX10_write_23 : decode cX10_write 23 = .ok (.ireturn, 1) := by decide +kernel
theorem dX10_write_24 : decode cX10_write 24 = .ok (.aload_n 0, 1) := by decide +kernel
theorem dX10_write_25 : decode cX10_write 25 = .ok (.getfield 32, 3) := by decide +kernel
theorem dX10_write_28 : decode cX10_write 28 = .ok (.aload_n 0, 1) := by decide +kernel
theorem dX10_write_29 : decode cX10_write 29 = .ok (.getfield 163, 3) := by decide +kernel
theorem dX10_write_32 : decode cX10_write 32 = .ok (.iload_n 1, 1) := by decide +kernel
theorem dX10_write_33 : decode cX10_write 33 = .ok (.iastore, 1) := by decide +kernel
theorem dX10_write_34 : decode cX10_write 34 = .ok (.aload_n 0, 1) := by decide +kernel
theorem dX10_write_35 : decode cX10_write 35 = .ok (.getfield 35, 3) := by decide +kernel
theorem dX10_write_38 : decode cX10_write 38 = .ok (.aload_n 0, 1) := by decide +kernel
theorem dX10_write_39 : decode cX10_write 39 = .ok (.getfield 163, 3) := by decide +kernel
theorem dX10_write_42 : decode cX10_write 42 = .ok (.iload_n 2, 1) := by decide +kernel
theorem dX10_write_43 : decode cX10_write 43 = .ok (.iastore, 1) := by decide +kernel
theorem dX10_write_44 : decode cX10_write 44 = .ok (.aload_n 0, 1) := by decide +kernel
theorem dX10_write_45 : decode cX10_write 45 = .ok (.getfield 38, 3) := by decide +kernel
theorem dX10_write_48 : decode cX10_write 48 = .ok (.aload_n 0, 1) := by decide +kernel
theorem dX10_write_49 : decode cX10_write 49 = .ok (.getfield 163, 3) := by decide +kernel
theorem dX10_write_52 : decode cX10_write 52 = .ok (.iload_n 3, 1) := by decide +kernel
theorem dX10_write_53 : decode cX10_write 53 = .ok (.iastore, 1) := by decide +kernel
theorem dX10_write_54 : decode cX10_write 54 = .ok (.aload_n 0, 1) := by decide +kernel
theorem dX10_write_55 : decode cX10_write 55 = .ok (.dup, 1) := by decide +kernel
theorem dX10_write_56 : decode cX10_write 56 = .ok (.getfield 163, 3) := by decide +kernel
theorem dX10_write_59 : decode cX10_write 59 = .ok (.iconst 1, 1) := by decide +kernel
theorem dX10_write_60 : decode cX10_write 60 = .ok (.iadd, 1) := by decide +kernel
theorem dX10_write_61 : decode cX10_write 61 = .ok (.putfield 163, 3) := by decide +kernel
theorem dX10_write_64 : decode cX10_write 64 = .ok (.aload_n 0, 1) := by decide +kernel
theorem dX10_write_65 : decode cX10_write 65 = .ok (.getfield 163, 3) := by decide +kernel
theorem dX10_write_68 : decode cX10_write 68 = .ok (.ireturn, 1) := by decide +kernel
theorem dX10_tear_0 : decode cX10_tear 0 = .ok (.aload_n 0, 1) := by decide +kernel
theorem dX10_tear_1 : decode cX10_tear 1 = .ok (.getfield 163, 3) := by decide +kernel
theorem dX10_tear_4 : decode cX10_tear 4 = .ok (.istore_n 1, 1) := by decide +kernel
theorem dX10_tear_5 : decode cX10_tear 5 = .ok (.aload_n 0, 1) := by decide +kernel
theorem dX10_tear_6 : decode cX10_tear 6 = .ok (.iconst 0, 1) := by decide +kernel
theorem dX10_tear_7 : decode cX10_tear 7 = .ok (.putfield 163, 3) := by decide +kernel
theorem dX10_tear_10 : decode cX10_tear 10 = .ok (.iload_n 1, 1) := by decide +kernel
theorem dX10_tear_11 : decode cX10_tear 11 = .ok (.ireturn, 1) := by decide +kernel
theorem dX10_seed_0 : decode cX10_seed 0 = .ok (.iload_n 1, 1) := by decide +kernel
theorem dX10_seed_1 : decode cX10_seed 1 = .ok (.ifCond .ge 6, 3) := by decide +kernel
theorem dX10_seed_4 : decode cX10_seed 4 = .ok (.ldc 110, 2) := by decide +kernel
theorem dX10_seed_6 : decode cX10_seed 6 = .ok (.ireturn, 1) := by decide +kernel
theorem dX10_seed_7 : decode cX10_seed 7 = .ok (.aload_n 0, 1) := by decide +kernel
theorem dX10_seed_8 : decode cX10_seed 8 = .ok (.getfield 204, 3) := by decide +kernel
theorem dX10_seed_11 : decode cX10_seed 11 = .ok (.istore_n 2, 1) := by decide +kernel
theorem dX10_seed_12 : decode cX10_seed 12 = .ok (.aload_n 0, 1) := by decide +kernel
theorem dX10_seed_13 : decode cX10_seed 13 = .ok (.iload_n 1, 1) := by decide +kernel
theorem dX10_seed_14 : decode cX10_seed 14 = .ok (.putfield 204, 3) := by decide +kernel
theorem dX10_seed_17 : decode cX10_seed 17 = .ok (.iload_n 2, 1) := by decide +kernel
theorem dX10_seed_18 : decode cX10_seed 18 = .ok (.ireturn, 1) := by decide +kernel
theorem dX10_isKept_0 : decode cX10_isKept 0 = .ok (.aload_n 0, 1) := by decide +kernel
theorem dX10_isKept_1 : decode cX10_isKept 1 = .ok (.getfield 221, 3) := by decide +kernel
theorem dX10_isKept_4 : decode cX10_isKept 4 = .ok (.iload_n 1, 1) := by decide +kernel
theorem dX10_isKept_5 : decode cX10_isKept 5 = .ok (.ishr, 1) := by decide +kernel
theorem dX10_isKept_6 : decode cX10_isKept 6 = .ok (.iconst 1, 1) := by decide +kernel
theorem dX10_isKept_7 : decode cX10_isKept 7 = .ok (.iand, 1) := by decide +kernel
theorem dX10_isKept_8 : decode cX10_isKept 8 = .ok (.iconst 1, 1) := by decide +kernel
theorem dX10_isKept_9 : decode cX10_isKept 9 = .ok (.if_icmp .ne 7, 3) := by decide +kernel
theorem dX10_isKept_12 : decode cX10_isKept 12 = .ok (.iconst 1, 1) := by decide +kernel
theorem dX10_isKept_13 : decode cX10_isKept 13 = .ok (.goto 4, 3) := by decide +kernel
theorem dX10_isKept_16 : decode cX10_isKept 16 = .ok (.iconst 0, 1) := by decide +kernel
theorem dX10_isKept_17 : decode cX10_isKept 17 = .ok (.ireturn, 1) := by decide +kernel
theorem dX10_keep_0 : decode cX10_keep 0 = .ok (.iload_n 1, 1) := by decide +kernel
theorem dX10_keep_1 : decode cX10_keep 1 = .ok (.i2l, 1) := by decide +kernel
theorem dX10_keep_2 : decode cX10_keep 2 = .ok (.lconst 0, 1) := by decide +kernel
theorem dX10_keep_3 : decode cX10_keep 3 = .ok (.lconst 1, 1) := by decide +kernel
theorem dX10_keep_4 : decode cX10_keep 4 = .ok (.invokestatic 58, 3) := by decide +kernel
theorem dX10_keep_7 : decode cX10_keep 7 = .ok (.ifCond .ne 6, 3) := by decide +kernel
theorem dX10_keep_10 : decode cX10_keep 10 = .ok (.ldc 175, 2) := by decide +kernel
theorem dX10_keep_12 : decode cX10_keep 12 = .ok (.ireturn, 1) := by decide +kernel
theorem dX10_keep_13 : decode cX10_keep 13 = .ok (.aload_n 0, 1) := by decide +kernel
theorem dX10_keep_14 : decode cX10_keep 14 = .ok (.iconst 0, 1) := by decide +kernel
theorem dX10_keep_15 : decode cX10_keep 15 = .ok (.sipush 1394, 3) := by decide +kernel
theorem dX10_keep_18 : decode cX10_keep 18 = .ok (.bipush 82, 2) := by decide +kernel
theorem dX10_keep_20 : decode cX10_keep 20 = .ok (.iload_n 1, 1) := by decide +kernel
theorem dX10_keep_21 : decode cX10_keep 21 = .ok (.imul, 1) := by decide +kernel
theorem dX10_keep_22 : decode cX10_keep 22 = .ok (.iadd, 1) := by decide +kernel
theorem dX10_keep_23 : decode cX10_keep 23 = .ok (.invokevirtual 47, 3) := by decide +kernel
theorem dX10_keep_26 : decode cX10_keep 26 = .ok (.iconst 0, 1) := by decide +kernel
theorem dX10_keep_27 : decode cX10_keep 27 = .ok (.istore_n 2, 1) := by decide +kernel
theorem dX10_keep_28 : decode cX10_keep 28 = .ok (.iload_n 2, 1) := by decide +kernel
theorem dX10_keep_29 : decode cX10_keep 29 = .ok (.bipush 31, 2) := by decide +kernel
theorem dX10_keep_31 : decode cX10_keep 31 = .ok (.if_icmp .ge 26, 3) := by decide +kernel
theorem dX10_keep_34 : decode cX10_keep 34 = .ok (.aload_n 0, 1) := by decide +kernel
theorem dX10_keep_35 : decode cX10_keep 35 = .ok (.getfield 23, 3) := by decide +kernel
theorem dX10_keep_38 : decode cX10_keep 38 = .ok (.bipush 31, 2) := by decide +kernel
theorem dX10_keep_40 : decode cX10_keep 40 = .ok (.iload_n 1, 1) := by decide +kernel
theorem dX10_keep_41 : decode cX10_keep 41 = .ok (.imul, 1) := by decide +kernel
theorem dX10_keep_42 : decode cX10_keep 42 = .ok (.iload_n 2, 1) := by decide +kernel
theorem dX10_keep_43 : decode cX10_keep 43 = .ok (.iadd, 1) := by decide +kernel
theorem dX10_keep_44 : decode cX10_keep 44 = .ok (.aload_n 0, 1) := by decide +kernel
theorem dX10_keep_45 : decode cX10_keep 45 = .ok (.getfield 20, 3) := by decide +kernel
theorem dX10_keep_48 : decode cX10_keep 48 = .ok (.iload_n 2, 1) := by decide +kernel
theorem dX10_keep_49 : decode cX10_keep 49 = .ok (.iaload, 1) := by decide +kernel
theorem dX10_keep_50 : decode cX10_keep 50 = .ok (.iastore, 1) := by decide +kernel
theorem dX10_keep_51 : decode cX10_keep 51 = .ok (.iinc 2 1, 3) := by decide +kernel
theorem dX10_keep_54 : decode cX10_keep 54 = .ok (.goto (-26), 3) := by decide +kernel
theorem dX10_keep_57 : decode cX10_keep 57 = .ok (.aload_n 0, 1) := by decide +kernel
theorem dX10_keep_58 : decode cX10_keep 58 = .ok (.getfield 26, 3) := by decide +kernel
theorem dX10_keep_61 : decode cX10_keep 61 = .ok (.iload_n 1, 1) := by decide +kernel
theorem dX10_keep_62 : decode cX10_keep 62 = .ok (.aload_n 0, 1) := by decide +kernel
theorem dX10_keep_63 : decode cX10_keep 63 = .ok (.getfield 127, 3) := by decide +kernel
theorem dX10_keep_66 : decode cX10_keep 66 = .ok (.iastore, 1) := by decide +kernel
theorem dX10_keep_67 : decode cX10_keep 67 = .ok (.aload_n 0, 1) := by decide +kernel
theorem dX10_keep_68 : decode cX10_keep 68 = .ok (.getfield 29, 3) := by decide +kernel
theorem dX10_keep_71 : decode cX10_keep 71 = .ok (.iload_n 1, 1) := by decide +kernel
theorem dX10_keep_72 : decode cX10_keep 72 = .ok (.aload_n 0, 1) := by decide +kernel
theorem dX10_keep_73 : decode cX10_keep 73 = .ok (.getfield 204, 3) := by decide +kernel
theorem dX10_keep_76 : decode cX10_keep 76 = .ok (.iastore, 1) := by decide +kernel
theorem dX10_keep_77 : decode cX10_keep 77 = .ok (.aload_n 0, 1) := by decide +kernel
theorem dX10_keep_78 : decode cX10_keep 78 = .ok (.dup, 1) := by decide +kernel
theorem dX10_keep_79 : decode cX10_keep 79 = .ok (.getfield 221, 3) := by decide +kernel
theorem dX10_keep_82 : decode cX10_keep 82 = .ok (.iconst 1, 1) := by decide +kernel
theorem dX10_keep_83 : decode cX10_keep 83 = .ok (.iload_n 1, 1) := by decide +kernel
theorem dX10_keep_84 : decode cX10_keep 84 = .ok (.ishl, 1) := by decide +kernel
theorem dX10_keep_85 : decode cX10_keep 85 = .ok (.ior, 1) := by decide +kernel
theorem dX10_keep_86 : decode cX10_keep 86 = .ok (.putfield 221, 3) := by decide +kernel
theorem dX10_keep_89 : decode cX10_keep 89 = .ok (.aload_n 0, 1) := by decide +kernel
theorem dX10_keep_90 : decode cX10_keep 90 = .ok (.iconst 0, 1) := by decide +kernel
theorem dX10_keep_91 : decode cX10_keep 91 = .ok (.putfield 51, 3) := by decide +kernel
theorem dX10_keep_94 : decode cX10_keep 94 = .ok (.iconst 1, 1) := by decide +kernel
theorem dX10_keep_95 : decode cX10_keep 95 = .ok (.ireturn, 1) := by decide +kernel
theorem dX10_goBack_0 : decode cX10_goBack 0 = .ok (.iload_n 1, 1) := by decide +kernel
theorem dX10_goBack_1 : decode cX10_goBack 1 = .ok (.i2l, 1) := by decide +kernel
theorem dX10_goBack_2 : decode cX10_goBack 2 = .ok (.lconst 0, 1) := by decide +kernel
theorem dX10_goBack_3 : decode cX10_goBack 3 = .ok (.lconst 1, 1) := by decide +kernel
theorem dX10_goBack_4 : decode cX10_goBack 4 = .ok (.invokestatic 58, 3) := by decide +kernel
theorem dX10_goBack_7 : decode cX10_goBack 7 = .ok (.ifCond .ne 6, 3) := by decide +kernel
theorem dX10_goBack_10 : decode cX10_goBack 10 = .ok (.ldc 175, 2) := by decide +kernel
theorem dX10_goBack_12 : decode cX10_goBack 12 = .ok (.ireturn, 1) := by decide +kernel
theorem dX10_goBack_13 : decode cX10_goBack 13 = .ok (.aload_n 0, 1) := by decide +kernel
theorem dX10_goBack_14 : decode cX10_goBack 14 = .ok (.iload_n 1, 1) := by decide +kernel
theorem dX10_goBack_15 : decode cX10_goBack 15 = .ok (.invokevirtual 224, 3) := by decide +kernel
theorem dX10_goBack_18 : decode cX10_goBack 18 = .ok (.ifCond .ne 6, 3) := by decide +kernel
theorem dX10_goBack_21 : decode cX10_goBack 21 = .ok (.ldc 195, 2) := by decide +kernel
theorem dX10_goBack_23 : decode cX10_goBack 23 = .ok (.ireturn, 1) := by decide +kernel
theorem dX10_goBack_24 : decode cX10_goBack 24 = .ok (.aload_n 0, 1) := by decide +kernel
theorem dX10_goBack_25 : decode cX10_goBack 25 = .ok (.sipush 1394, 3) := by decide +kernel
theorem dX10_goBack_28 : decode cX10_goBack 28 = .ok (.bipush 82, 2) := by decide +kernel
theorem dX10_goBack_30 : decode cX10_goBack 30 = .ok (.iload_n 1, 1) := by decide +kernel
theorem dX10_goBack_31 : decode cX10_goBack 31 = .ok (.imul, 1) := by decide +kernel
theorem dX10_goBack_32 : decode cX10_goBack 32 = .ok (.iadd, 1) := by decide +kernel
theorem dX10_goBack_33 : decode cX10_goBack 33 = .ok (.iconst 0, 1) := by decide +kernel
theorem dX10_goBack_34 : decode cX10_goBack 34 = .ok (.invokevirtual 47, 3) := by decide +kernel
theorem dX10_goBack_37 : decode cX10_goBack 37 = .ok (.iconst 0, 1) := by decide +kernel
theorem dX10_goBack_38 : decode cX10_goBack 38 = .ok (.istore_n 2, 1) := by decide +kernel
theorem dX10_goBack_39 : decode cX10_goBack 39 = .ok (.iload_n 2, 1) := by decide +kernel
theorem dX10_goBack_40 : decode cX10_goBack 40 = .ok (.bipush 31, 2) := by decide +kernel
theorem dX10_goBack_42 : decode cX10_goBack 42 = .ok (.if_icmp .ge 26, 3) := by decide +kernel
theorem dX10_goBack_45 : decode cX10_goBack 45 = .ok (.aload_n 0, 1) := by decide +kernel
theorem dX10_goBack_46 : decode cX10_goBack 46 = .ok (.getfield 20, 3) := by decide +kernel
theorem dX10_goBack_49 : decode cX10_goBack 49 = .ok (.iload_n 2, 1) := by decide +kernel
theorem dX10_goBack_50 : decode cX10_goBack 50 = .ok (.aload_n 0, 1) := by decide +kernel
theorem dX10_goBack_51 : decode cX10_goBack 51 = .ok (.getfield 23, 3) := by decide +kernel
theorem dX10_goBack_54 : decode cX10_goBack 54 = .ok (.bipush 31, 2) := by decide +kernel
theorem dX10_goBack_56 : decode cX10_goBack 56 = .ok (.iload_n 1, 1) := by decide +kernel
theorem dX10_goBack_57 : decode cX10_goBack 57 = .ok (.imul, 1) := by decide +kernel
theorem dX10_goBack_58 : decode cX10_goBack 58 = .ok (.iload_n 2, 1) := by decide +kernel
theorem dX10_goBack_59 : decode cX10_goBack 59 = .ok (.iadd, 1) := by decide +kernel
theorem dX10_goBack_60 : decode cX10_goBack 60 = .ok (.iaload, 1) := by decide +kernel
theorem dX10_goBack_61 : decode cX10_goBack 61 = .ok (.iastore, 1) := by decide +kernel
theorem dX10_goBack_62 : decode cX10_goBack 62 = .ok (.iinc 2 1, 3) := by decide +kernel
theorem dX10_goBack_65 : decode cX10_goBack 65 = .ok (.goto (-26), 3) := by decide +kernel
theorem dX10_goBack_68 : decode cX10_goBack 68 = .ok (.aload_n 0, 1) := by decide +kernel
theorem dX10_goBack_69 : decode cX10_goBack 69 = .ok (.aload_n 0, 1) := by decide +kernel
theorem dX10_goBack_70 : decode cX10_goBack 70 = .ok (.getfield 26, 3) := by decide +kernel
theorem dX10_goBack_73 : decode cX10_goBack 73 = .ok (.iload_n 1, 1) := by decide +kernel
theorem dX10_goBack_74 : decode cX10_goBack 74 = .ok (.iaload, 1) := by decide +kernel
theorem dX10_goBack_75 : decode cX10_goBack 75 = .ok (.putfield 127, 3) := by decide +kernel
theorem dX10_goBack_78 : decode cX10_goBack 78 = .ok (.aload_n 0, 1) := by decide +kernel
theorem dX10_goBack_79 : decode cX10_goBack 79 = .ok (.aload_n 0, 1) := by decide +kernel
theorem dX10_goBack_80 : decode cX10_goBack 80 = .ok (.getfield 29, 3) := by decide +kernel
theorem dX10_goBack_83 : decode cX10_goBack 83 = .ok (.iload_n 1, 1) := by decide +kernel
theorem dX10_goBack_84 : decode cX10_goBack 84 = .ok (.iaload, 1) := by decide +kernel
theorem dX10_goBack_85 : decode cX10_goBack 85 = .ok (.putfield 204, 3) := by decide +kernel
theorem dX10_goBack_88 : decode cX10_goBack 88 = .ok (.aload_n 0, 1) := by decide +kernel
theorem dX10_goBack_89 : decode cX10_goBack 89 = .ok (.iconst 0, 1) := by decide +kernel
theorem dX10_goBack_90 : decode cX10_goBack 90 = .ok (.putfield 51, 3) := by decide +kernel
theorem dX10_goBack_93 : decode cX10_goBack 93 = .ok (.iconst 1, 1) := by decide +kernel
theorem dX10_goBack_94 : decode cX10_goBack 94 = .ok (.ireturn, 1) := by decide +kernel
theorem dX10_against_0 : decode cX10_against 0 = .ok (.iload_n 1, 1) := by decide +kernel
theorem dX10_against_1 : decode cX10_against 1 = .ok (.i2l, 1) := by decide +kernel
theorem dX10_against_2 : decode cX10_against 2 = .ok (.lconst 0, 1) := by decide +kernel
theorem dX10_against_3 : decode cX10_against 3 = .ok (.lconst 1, 1) := by decide +kernel
theorem dX10_against_4 : decode cX10_against 4 = .ok (.invokestatic 58, 3) := by decide +kernel
theorem dX10_against_7 : decode cX10_against 7 = .ok (.ifCond .ne 6, 3) := by decide +kernel
theorem dX10_against_10 : decode cX10_against 10 = .ok (.ldc 175, 2) := by decide +kernel
theorem dX10_against_12 : decode cX10_against 12 = .ok (.ireturn, 1) := by decide +kernel
theorem dX10_against_13 : decode cX10_against 13 = .ok (.aload_n 0, 1) := by decide +kernel
theorem dX10_against_14 : decode cX10_against 14 = .ok (.iload_n 1, 1) := by decide +kernel
theorem dX10_against_15 : decode cX10_against 15 = .ok (.invokevirtual 224, 3) := by decide +kernel
theorem dX10_against_18 : decode cX10_against 18 = .ok (.ifCond .ne 6, 3) := by decide +kernel
theorem dX10_against_21 : decode cX10_against 21 = .ok (.ldc 195, 2) := by decide +kernel
theorem dX10_against_23 : decode cX10_against 23 = .ok (.ireturn, 1) := by decide +kernel
theorem dX10_against_24 : decode cX10_against 24 = .ok (.sipush 1394, 3) := by decide +kernel
theorem dX10_against_27 : decode cX10_against 27 = .ok (.bipush 82, 2) := by decide +kernel
theorem dX10_against_29 : decode cX10_against 29 = .ok (.iload_n 1, 1) := by decide +kernel
theorem dX10_against_30 : decode cX10_against 30 = .ok (.imul, 1) := by decide +kernel
theorem dX10_against_31 : decode cX10_against 31 = .ok (.iadd, 1) := by decide +kernel
theorem dX10_against_32 : decode cX10_against 32 = .ok (.istore_n 2, 1) := by decide +kernel
theorem dX10_against_33 : decode cX10_against 33 = .ok (.aload_n 0, 1) := by decide +kernel
theorem dX10_against_34 : decode cX10_against 34 = .ok (.getfield 7, 3) := by decide +kernel
theorem dX10_against_37 : decode cX10_against 37 = .ok (.iload_n 2, 1) := by decide +kernel
theorem dX10_against_38 : decode cX10_against 38 = .ok (.iaload, 1) := by decide +kernel
theorem dX10_against_39 : decode cX10_against 39 = .ok (.aload_n 0, 1) := by decide +kernel
theorem dX10_against_40 : decode cX10_against 40 = .ok (.getfield 7, 3) := by decide +kernel
theorem dX10_against_43 : decode cX10_against 43 = .ok (.iconst 0, 1) := by decide +kernel
theorem dX10_against_44 : decode cX10_against 44 = .ok (.iaload, 1) := by decide +kernel
theorem dX10_against_45 : decode cX10_against 45 = .ok (.if_icmp .ne 20, 3) := by decide +kernel
theorem dX10_against_48 : decode cX10_against 48 = .ok (.aload_n 0, 1) := by decide +kernel
theorem dX10_against_49 : decode cX10_against 49 = .ok (.getfield 7, 3) := by decide +kernel
theorem dX10_against_52 : decode cX10_against 52 = .ok (.iload_n 2, 1) := by decide +kernel
theorem dX10_against_53 : decode cX10_against 53 = .ok (.iconst 1, 1) := by decide +kernel
theorem dX10_against_54 : decode cX10_against 54 = .ok (.iadd, 1) := by decide +kernel
theorem dX10_against_55 : decode cX10_against 55 = .ok (.iaload, 1) := by decide +kernel
theorem dX10_against_56 : decode cX10_against 56 = .ok (.aload_n 0, 1) := by decide +kernel
theorem dX10_against_57 : decode cX10_against 57 = .ok (.getfield 7, 3) := by decide +kernel
theorem dX10_against_60 : decode cX10_against 60 = .ok (.iconst 1, 1) := by decide +kernel
theorem dX10_against_61 : decode cX10_against 61 = .ok (.iaload, 1) := by decide +kernel
theorem dX10_against_62 : decode cX10_against 62 = .ok (.if_icmp .eq 5, 3) := by decide +kernel
theorem dX10_against_65 : decode cX10_against 65 = .ok (.iconst (-1), 1) := by decide +kernel
theorem dX10_against_66 : decode cX10_against 66 = .ok (.ireturn, 1) := by decide +kernel
theorem dX10_against_67 : decode cX10_against 67 = .ok (.iconst 0, 1) := by decide +kernel
theorem dX10_against_68 : decode cX10_against 68 = .ok (.istore_n 3, 1) := by decide +kernel
theorem dX10_against_69 : decode cX10_against 69 = .ok (.iconst 0, 1) := by decide +kernel
theorem dX10_against_70 : decode cX10_against 70 = .ok (.istore 4, 2) := by decide +kernel
theorem dX10_against_72 : decode cX10_against 72 = .ok (.iload 4, 2) := by decide +kernel
theorem dX10_against_74 : decode cX10_against 74 = .ok (.aload_n 0, 1) := by decide +kernel
theorem dX10_against_75 : decode cX10_against 75 = .ok (.getfield 7, 3) := by decide +kernel
theorem dX10_against_78 : decode cX10_against 78 = .ok (.iconst 1, 1) := by decide +kernel
theorem dX10_against_79 : decode cX10_against 79 = .ok (.iaload, 1) := by decide +kernel
theorem dX10_against_80 : decode cX10_against 80 = .ok (.if_icmp .ge 68, 3) := by decide +kernel
theorem dX10_against_83 : decode cX10_against 83 = .ok (.iconst 0, 1) := by decide +kernel
theorem dX10_against_84 : decode cX10_against 84 = .ok (.istore 5, 2) := by decide +kernel
theorem dX10_against_86 : decode cX10_against 86 = .ok (.iload 5, 2) := by decide +kernel
theorem dX10_against_88 : decode cX10_against 88 = .ok (.aload_n 0, 1) := by decide +kernel
theorem dX10_against_89 : decode cX10_against 89 = .ok (.getfield 7, 3) := by decide +kernel
theorem dX10_against_92 : decode cX10_against 92 = .ok (.iconst 0, 1) := by decide +kernel
theorem dX10_against_93 : decode cX10_against 93 = .ok (.iaload, 1) := by decide +kernel
theorem dX10_against_94 : decode cX10_against 94 = .ok (.if_icmp .ge 48, 3) := by decide +kernel
theorem dX10_against_97 : decode cX10_against 97 = .ok (.iload_n 3, 1) := by decide +kernel
theorem dX10_against_98 : decode cX10_against 98 = .ok (.aload_n 0, 1) := by decide +kernel
theorem dX10_against_99 : decode cX10_against 99 = .ok (.getfield 7, 3) := by decide +kernel
theorem dX10_against_102 : decode cX10_against 102 = .ok (.iload_n 2, 1) := by decide +kernel
theorem dX10_against_103 : decode cX10_against 103 = .ok (.aload_n 0, 1) := by decide +kernel
theorem dX10_against_104 : decode cX10_against 104 = .ok (.iload 5, 2) := by decide +kernel
theorem dX10_against_106 : decode cX10_against 106 = .ok (.iload 4, 2) := by decide +kernel
theorem dX10_against_108 : decode cX10_against 108 = .ok (.invokevirtual 54, 3) := by decide +kernel
theorem dX10_against_111 : decode cX10_against 111 = .ok (.iadd, 1) := by decide +kernel
theorem dX10_against_112 : decode cX10_against 112 = .ok (.iaload, 1) := by decide +kernel
theorem dX10_against_113 : decode cX10_against 113 = .ok (.aload_n 0, 1) := by decide +kernel
theorem dX10_against_114 : decode cX10_against 114 = .ok (.getfield 7, 3) := by decide +kernel
theorem dX10_against_117 : decode cX10_against 117 = .ok (.aload_n 0, 1) := by decide +kernel
theorem dX10_against_118 : decode cX10_against 118 = .ok (.iload 5, 2) := by decide +kernel
theorem dX10_against_120 : decode cX10_against 120 = .ok (.iload 4, 2) := by decide +kernel
theorem dX10_against_122 : decode cX10_against 122 = .ok (.invokevirtual 54, 3) := by decide +kernel
theorem dX10_against_125 : decode cX10_against 125 = .ok (.iaload, 1) := by decide +kernel
theorem dX10_against_126 : decode cX10_against 126 = .ok (.if_icmp .eq 7, 3) := by decide +kernel
theorem dX10_against_129 : decode cX10_against 129 = .ok (.iconst 1, 1) := by decide +kernel
theorem dX10_against_130 : decode cX10_against 130 = .ok (.goto 4, 3) := by decide +kernel
theorem dX10_against_133 : decode cX10_against 133 = .ok (.iconst 0, 1) := by decide +kernel
theorem dX10_against_134 : decode cX10_against 134 = .ok (.iadd, 1) := by decide +kernel
theorem dX10_against_135 : decode cX10_against 135 = .ok (.istore_n 3, 1) := by decide +kernel
theorem dX10_against_136 : decode cX10_against 136 = .ok (.iinc 5 1, 3) := by decide +kernel
theorem dX10_against_139 : decode cX10_against 139 = .ok (.goto (-53), 3) := by decide +kernel
theorem dX10_against_142 : decode cX10_against 142 = .ok (.iinc 4 1, 3) := by decide +kernel
theorem dX10_against_145 : decode cX10_against 145 = .ok (.goto (-73), 3) := by decide +kernel
theorem dX10_against_148 : decode cX10_against 148 = .ok (.iload_n 3, 1) := by decide +kernel
theorem dX10_against_149 : decode cX10_against 149 = .ok (.ireturn, 1) := by decide +kernel
