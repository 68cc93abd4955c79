theorem dX0_init_0 : decode cX0_init 0 = .ok (.aload_n 0, 1) := by decide +kernel
theorem dX0_init_1 : decode cX0_init 1 = .ok (.invokespecial 3, 3) := by decide +kernel
theorem dX0_init_4 : decode cX0_init 4 = .ok (.aload_n 0, 1) := by decide +kernel
theorem dX0_init_5 : decode cX0_init 5 = .ok (.iconst 0, 1) := by decide +kernel
theorem dX0_init_6 : decode cX0_init 6 = .ok (.putfield 9, 3) := by decide +kernel
theorem dX0_init_9 : decode cX0_init 9 = .ok (.aload_n 0, 1) := by decide +kernel
theorem dX0_init_10 : decode cX0_init 10 = .ok (.bipush 20, 2) := by decide +kernel
theorem dX0_init_12 : decode cX0_init 12 = .ok (.newarray .int, 2) := by decide +kernel
theorem dX0_init_14 : decode cX0_init 14 = .ok (.putfield 15, 3) := by decide +kernel
theorem dX0_init_17 : decode cX0_init 17 = .ok (.aload_n 0, 1) := by decide +kernel
theorem dX0_init_18 : decode cX0_init 18 = .ok (.bipush 20, 2) := by decide +kernel
theorem dX0_init_20 : decode cX0_init 20 = .ok (.newarray .int, 2) := by decide +kernel
theorem dX0_init_22 : decode cX0_init 22 = .ok (.putfield 19, 3) := by decide +kernel
theorem dX0_init_25 : decode cX0_init 25 = .ok (.aload_n 0, 1) := by decide +kernel
theorem dX0_init_26 : decode cX0_init 26 = .ok (.bipush 20, 2) := by decide +kernel
theorem dX0_init_28 : decode cX0_init 28 = .ok (.newarray .int, 2) := by decide +kernel
theorem dX0_init_30 : decode cX0_init 30 = .ok (.putfield 22, 3) := by decide +kernel
theorem dX0_init_33 : decode cX0_init 33 = .ok (.return_, 1) := by decide +kernel
theorem dX0_add_0 : decode cX0_add 0 = .ok (.aload_n 0, 1) := by decide +kernel
theorem dX0_add_1 : decode cX0_add 1 = .ok (.getfield 9, 3) := by decide +kernel
theorem dX0_add_4 : decode cX0_add 4 = .ok (.bipush 20, 2) := by decide +kernel
theorem dX0_add_6 : decode cX0_add 6 = .ok (.if_icmp .lt 6, 3) := by decide +kernel
theorem dX0_add_9 : decode cX0_add 9 = .ok (.ldc 25, 2) := by decide +kernel
theorem dX0_add_11 : decode cX0_add 11 = .ok (.ireturn, 1) := by decide +kernel
theorem dX0_add_12 : decode cX0_add 12 = .ok (.aload_n 0, 1) := by decide +kernel
theorem dX0_add_13 : decode cX0_add 13 = .ok (.getfield 15, 3) := by decide +kernel
theorem dX0_add_16 : decode cX0_add 16 = .ok (.aload_n 0, 1) := by decide +kernel
theorem dX0_add_17 : decode cX0_add 17 = .ok (.getfield 9, 3) := by decide +kernel
theorem dX0_add_20 : decode cX0_add 20 = .ok (.iload_n 1, 1) := by decide +kernel
theorem dX0_add_21 : decode cX0_add 21 = .ok (.iastore, 1) := by decide +kernel
theorem dX0_add_22 : decode cX0_add 22 = .ok (.aload_n 0, 1) := by decide +kernel
theorem dX0_add_23 : decode cX0_add 23 = .ok (.getfield 19, 3) := by decide +kernel
theorem dX0_add_26 : decode cX0_add 26 = .ok (.aload_n 0, 1) := by decide +kernel
theorem dX0_add_27 : decode cX0_add 27 = .ok (.getfield 9, 3) := by decide +kernel
theorem dX0_add_30 : decode cX0_add 30 = .ok (.iload_n 2, 1) := by decide +kernel
theorem dX0_add_31 : decode cX0_add 31 = .ok (.iastore, 1) := by decide +kernel
theorem dX0_add_32 : decode cX0_add 32 = .ok (.aload_n 0, 1) := by decide +kernel
theorem dX0_add_33 : decode cX0_add 33 = .ok (.getfield 22, 3) := by decide +kernel
theorem dX0_add_36 : decode cX0_add 36 = .ok (.aload_n 0, 1) := by decide +kernel
theorem dX0_add_37 : decode cX0_add 37 = .ok (.getfield 9, 3) := by decide +kernel
theorem dX0_add_40 : decode cX0_add 40 = .ok (.iload_n 3, 1) := by decide +kernel
theorem dX0_add_41 : decode cX0_add 41 = .ok (.iastore, 1) := by decide +kernel
theorem dX0_add_42 : decode cX0_add 42 = .ok (.aload_n 0, 1) := by decide +kernel
theorem dX0_add_43 : decode cX0_add 43 = .ok (.dup, 1) := by decide +kernel
theorem dX0_add_44 : decode cX0_add 44 = .ok (.getfield 9, 3) := by decide +kernel
theorem dX0_add_47 : decode cX0_add 47 = .ok (.iconst 1, 1) := by decide +kernel
theorem dX0_add_48 : decode cX0_add 48 = .ok (.iadd, 1) := by decide +kernel
theorem dX0_add_49 : decode cX0_add 49 = .ok (.putfield 9, 3) := by decide +kernel
theorem dX0_add_52 : decode cX0_add 52 = .ok (.aload_n 0, 1) := by decide +kernel
theorem dX0_add_53 : decode cX0_add 53 = .ok (.getfield 9, 3) := by decide +kernel
theorem dX0_add_56 : decode cX0_add 56 = .ok (.ireturn, 1) := by decide +kernel
theorem dX0_firstWrong_0 : decode cX0_firstWrong 0 = .ok (.iconst 0, 1) := by decide +kernel
theorem dX0_firstWrong_1 : decode cX0_firstWrong 1 = .ok (.istore_n 2, 1) := by decide +kernel
theorem dX0_firstWrong_2 : decode cX0_firstWrong 2 = .ok (.iload_n 2, 1) := by decide +kernel
theorem dX0_firstWrong_3 : decode cX0_firstWrong 3 = .ok (.aload_n 0, 1) := by decide +kernel
theorem dX0_firstWrong_4 : decode cX0_firstWrong 4 = .ok (.getfield 9, 3) := by decide +kernel
theorem dX0_firstWrong_7 : decode cX0_firstWrong 7 = .ok (.if_icmp .ge 55, 3) := by decide +kernel
theorem dX0_firstWrong_10 : decode cX0_firstWrong 10 = .ok (.aload_n 1, 1) := by decide +kernel
theorem dX0_firstWrong_11 : decode cX0_firstWrong 11 = .ok (.aload_n 0, 1) := by decide +kernel
theorem dX0_firstWrong_12 : decode cX0_firstWrong 12 = .ok (.getfield 15, 3) := by decide +kernel
theorem dX0_firstWrong_15 : decode cX0_firstWrong 15 = .ok (.iload_n 2, 1) := by decide +kernel
theorem dX0_firstWrong_16 : decode cX0_firstWrong 16 = .ok (.iaload, 1) := by decide +kernel
theorem dX0_firstWrong_17 : decode cX0_firstWrong 17 = .ok (.aload_n 0, 1) := by decide +kernel
theorem dX0_firstWrong_18 : decode cX0_firstWrong 18 = .ok (.getfield 19, 3) := by decide +kernel
theorem dX0_firstWrong_21 : decode cX0_firstWrong 21 = .ok (.iload_n 2, 1) := by decide +kernel
theorem dX0_firstWrong_22 : decode cX0_firstWrong 22 = .ok (.iaload, 1) := by decide +kernel
theorem dX0_firstWrong_23 : decode cX0_firstWrong 23 = .ok (.invokevirtual 26, 3) := by decide +kernel
theorem dX0_firstWrong_26 : decode cX0_firstWrong 26 = .ok (.ifCond .eq 28, 3) := by decide +kernel
theorem dX0_firstWrong_29 : decode cX0_firstWrong 29 = .ok (.aload_n 1, 1) := by decide +kernel
theorem dX0_firstWrong_30 : decode cX0_firstWrong 30 = .ok (.aload_n 0, 1) := by decide +kernel
theorem dX0_firstWrong_31 : decode cX0_firstWrong 31 = .ok (.getfield 15, 3) := by decide +kernel
theorem dX0_firstWrong_34 : decode cX0_firstWrong 34 = .ok (.iload_n 2, 1) := by decide +kernel
theorem dX0_firstWrong_35 : decode cX0_firstWrong 35 = .ok (.iaload, 1) := by decide +kernel
theorem dX0_firstWrong_36 : decode cX0_firstWrong 36 = .ok (.aload_n 0, 1) := by decide +kernel
theorem dX0_firstWrong_37 : decode cX0_firstWrong 37 = .ok (.getfield 19, 3) := by decide +kernel
theorem dX0_firstWrong_40 : decode cX0_firstWrong 40 = .ok (.iload_n 2, 1) := by decide +kernel
theorem dX0_firstWrong_41 : decode cX0_firstWrong 41 = .ok (.iaload, 1) := by decide +kernel
theorem dX0_firstWrong_42 : decode cX0_firstWrong 42 = .ok (.invokevirtual 32, 3) := by decide +kernel
theorem dX0_firstWrong_45 : decode cX0_firstWrong 45 = .ok (.aload_n 0, 1) := by decide +kernel
theorem dX0_firstWrong_46 : decode cX0_firstWrong 46 = .ok (.getfield 22, 3) := by decide +kernel
theorem dX0_firstWrong_49 : decode cX0_firstWrong 49 = .ok (.iload_n 2, 1) := by decide +kernel
theorem dX0_firstWrong_50 : decode cX0_firstWrong 50 = .ok (.iaload, 1) := by decide +kernel
theorem dX0_firstWrong_51 : decode cX0_firstWrong 51 = .ok (.if_icmp .eq 5, 3) := by decide +kernel
theorem dX0_firstWrong_54 : decode cX0_firstWrong 54 = .ok (.iload_n 2, 1) := by decide +kernel
theorem dX0_firstWrong_55 : decode cX0_firstWrong 55 = .ok (.ireturn, 1) := by decide +kernel
theorem dX0_firstWrong_56 : decode cX0_firstWrong 56 = .ok (.iinc 2 1, 3) := by decide +kernel
theorem dX0_firstWrong_59 : decode cX0_firstWrong 59 = .ok (.goto (-57), 3) := by decide +kernel
theorem dX0_firstWrong_62 : decode cX0_firstWrong 62 = .ok (.iconst (-1), 1) := by decide +kernel
theorem dX0_firstWrong_63 : decode cX0_firstWrong 63 = .ok (.ireturn, 1) := by decide +kernel
theorem dX1_init_0 : decode cX1_init 0 = .ok (.aload_n 0, 1) := by decide +kernel
theorem dX1_init_1 : decode cX1_init 1 = .ok (.invokespecial 1, 3) := by decide +kernel
theorem dX1_init_4 : decode cX1_init 4 = .ok (.aload_n 0, 1) := by decide +kernel
theorem dX1_init_5 : decode cX1_init 5 = .ok (.iload_n 1, 1) := by decide +kernel
theorem dX1_init_6 : decode cX1_init 6 = .ok (.putfield 7, 3) := by decide +kernel
theorem dX1_init_9 : decode cX1_init 9 = .ok (.aload_n 0, 1) := by decide +kernel
theorem dX1_init_10 : decode cX1_init 10 = .ok (.iload_n 2, 1) := by decide +kernel
theorem dX1_init_11 : decode cX1_init 11 = .ok (.putfield 13, 3) := by decide +kernel
theorem dX1_init_14 : decode cX1_init 14 = .ok (.aload_n 0, 1) := by decide +kernel
theorem dX1_init_15 : decode cX1_init 15 = .ok (.iload_n 3, 1) := by decide +kernel
theorem dX1_init_16 : decode cX1_init 16 = .ok (.putfield 16, 3) := by decide +kernel
theorem dX1_init_19 : decode cX1_init 19 = .ok (.aload_n 0, 1) := by decide +kernel
theorem dX1_init_20 : decode cX1_init 20 = .ok (.iload 4, 2) := by decide +kernel
theorem dX1_init_22 : decode cX1_init 22 = .ok (.putfield 19, 3) := by decide +kernel
theorem dX1_init_25 : decode cX1_init 25 = .ok (.aload_n 0, 1) := by decide +kernel
theorem dX1_init_26 : decode cX1_init 26 = .ok (.iload 5, 2) := by decide +kernel
theorem dX1_init_28 : decode cX1_init 28 = .ok (.putfield 22, 3) := by decide +kernel
theorem dX1_init_31 : decode cX1_init 31 = .ok (.return_, 1) := by decide +kernel
theorem dX2_init_0 : decode cX2_init 0 = .ok (.aload_n 0, 1) := by decide +kernel
theorem dX2_init_1 : decode cX2_init 1 = .ok (.invokespecial 3, 3) := by decide +kernel
theorem dX2_init_4 : decode cX2_init 4 = .ok (.aload_n 0, 1) := by decide +kernel
theorem dX2_init_5 : decode cX2_init 5 = .ok (.iconst 0, 1) := by decide +kernel
theorem dX2_init_6 : decode cX2_init 6 = .ok (.putfield 9, 3) := by decide +kernel
theorem dX2_init_9 : decode cX2_init 9 = .ok (.aload_n 0, 1) := by decide +kernel
theorem dX2_init_10 : decode cX2_init 10 = .ok (.bipush 6, 2) := by decide +kernel
theorem dX2_init_12 : decode cX2_init 12 = .ok (.anewarray 15, 3) := by decide +kernel
theorem dX2_init_15 : decode cX2_init 15 = .ok (.putfield 17, 3) := by decide +kernel
theorem dX2_init_18 : decode cX2_init 18 = .ok (.return_, 1) := by decide +kernel
theorem dX2_isFull_0 : decode cX2_isFull 0 = .ok (.aload_n 0, 1) := by decide +kernel
theorem dX2_isFull_1 : decode cX2_isFull 1 = .ok (.getfield 9, 3) := by decide +kernel
theorem dX2_isFull_4 : decode cX2_isFull 4 = .ok (.bipush 6, 2) := by decide +kernel
theorem dX2_isFull_6 : decode cX2_isFull 6 = .ok (.if_icmp .lt 7, 3) := by decide +kernel
theorem dX2_isFull_9 : decode cX2_isFull 9 = .ok (.iconst 1, 1) := by decide +kernel
theorem dX2_isFull_10 : decode cX2_isFull 10 = .ok (.goto 4, 3) := by decide +kernel
theorem dX2_isFull_13 : decode cX2_isFull 13 = .ok (.iconst 0, 1) := by decide +kernel
theorem dX2_isFull_14 : decode cX2_isFull 14 = .ok (.ireturn, 1) := by decide +kernel
theorem dX2_numbered_0 : decode cX2_numbered 0 = .ok (.iload_n 1, 1) := by decide +kernel
theorem dX2_numbered_1 : decode cX2_numbered 1 = .ok (.iconst 0, 1) := by decide +kernel
theorem dX2_numbered_2 : decode cX2_numbered 2 = .ok (.aload_n 0, 1) := by decide +kernel
theorem dX2_numbered_3 : decode cX2_numbered 3 = .ok (.getfield 9, 3) := by decide +kernel
theorem dX2_numbered_6 : decode cX2_numbered 6 = .ok (.iconst 1, 1) := by decide +kernel
theorem dX2_numbered_7 : decode cX2_numbered 7 = .ok (.isub, 1) := by decide +kernel
theorem dX2_numbered_8 : decode cX2_numbered 8 = .ok (.invokestatic 21, 3) := by decide +kernel
theorem dX2_numbered_11 : decode cX2_numbered 11 = .ok (.ifCond .eq 12, 3) := by decide +kernel
theorem dX2_numbered_14 : decode cX2_numbered 14 = .ok (.aload_n 0, 1) := by decide +kernel
theorem dX2_numbered_15 : decode cX2_numbered 15 = .ok (.getfield 17, 3) := by decide +kernel
theorem dX2_numbered_18 : decode cX2_numbered 18 = .ok (.iload_n 1, 1) := by decide +kernel
theorem dX2_numbered_19 : decode cX2_numbered 19 = .ok (.aaload, 1) := by decide +kernel
theorem dX2_numbered_20 : decode cX2_numbered 20 = .ok (.goto 4, 3) := by decide +kernel
theorem dX2_numbered_23 : decode cX2_numbered 23 = .ok (.aconst_null, 1) := by decide +kernel
theorem dX2_numbered_24 : decode cX2_numbered 24 = .ok (.areturn, 1) := by decide +kernel
theorem dX2_add_0 : decode cX2_add 0 = .ok (.aload_n 0, 1) := by decide +kernel
theorem dX2_add_1 : decode cX2_add 1 = .ok (.invokevirtual 25, 3) := by decide +kernel
theorem dX2_add_4 : decode cX2_add 4 = .ok (.ifCond .eq 6, 3) := by decide +kernel
theorem dX2_add_7 : decode cX2_add 7 = .ok (.ldc 29, 2) := by decide +kernel
theorem dX2_add_9 : decode cX2_add 9 = .ok (.ireturn, 1) := by decide +kernel
theorem dX2_add_10 : decode cX2_add 10 = .ok (.aload_n 0, 1) := by decide +kernel
theorem dX2_add_11 : decode cX2_add 11 = .ok (.getfield 17, 3) := by decide +kernel
theorem dX2_add_14 : decode cX2_add 14 = .ok (.aload_n 0, 1) := by decide +kernel
theorem dX2_add_15 : decode cX2_add 15 = .ok (.getfield 9, 3) := by decide +kernel
theorem dX2_add_18 : decode cX2_add 18 = .ok (.aload_n 1, 1) := by decide +kernel
theorem dX2_add_19 : decode cX2_add 19 = .ok (.aastore, 1) := by decide +kernel
theorem dX2_add_20 : decode cX2_add 20 = .ok (.aload_n 0, 1) := by decide +kernel
theorem dX2_add_21 : decode cX2_add 21 = .ok (.dup, 1) := by decide +kernel
theorem dX2_add_22 : decode cX2_add 22 = .ok (.getfield 9, 3) := by decide +kernel
theorem dX2_add_25 : decode cX2_add 25 = .ok (.iconst 1, 1) := by decide +kernel
theorem dX2_add_26 : decode cX2_add 26 = .ok (.iadd, 1) := by decide +kernel
theorem dX2_add_27 : decode cX2_add 27 = .ok (.putfield 9, 3) := by decide +kernel
theorem dX2_add_30 : decode cX2_add 30 = .ok (.aload_n 0, 1) := by decide +kernel
theorem dX2_add_31 : decode cX2_add 31 = .ok (.getfield 9, 3) := by decide +kernel
theorem dX2_add_34 : decode cX2_add 34 = .ok (.iconst 1, 1) := by decide +kernel
theorem dX2_add_35 : decode cX2_add 35 = .ok (.isub, 1) := by decide +kernel
theorem dX2_add_36 : decode cX2_add 36 = .ok (.ireturn, 1) := by decide +kernel
theorem dX2_remove_0 : decode cX2_remove 0 = .ok (.iload_n 1, 1) := by decide +kernel
theorem dX2_remove_1 : decode cX2_remove 1 = .ok (.iconst 0, 1) := by decide +kernel
theorem dX2_remove_2 : decode cX2_remove 2 = .ok (.aload_n 0, 1) := by decide +kernel
theorem dX2_remove_3 : decode cX2_remove 3 = .ok (.getfield 9, 3) := by decide +kernel
theorem dX2_remove_6 : decode cX2_remove 6 = .ok (.iconst 1, 1) := by decide +kernel
theorem dX2_remove_7 : decode cX2_remove 7 = .ok (.isub, 1) := by decide +kernel
theorem dX2_remove_8 : decode cX2_remove 8 = .ok (.invokestatic 21, 3) := by decide +kernel
theorem dX2_remove_11 : decode cX2_remove 11 = .ok (.ifCond .ne 6, 3) := by decide +kernel
theorem dX2_remove_14 : decode cX2_remove 14 = .ok (.ldc 30, 2) := by decide +kernel
theorem dX2_remove_16 : decode cX2_remove 16 = .ok (.ireturn, 1) := by decide +kernel
theorem dX2_remove_17 : decode cX2_remove 17 = .ok (.aload_n 0, 1) := by decide +kernel
theorem dX2_remove_18 : decode cX2_remove 18 = .ok (.dup, 1) := by decide +kernel
theorem dX2_remove_19 : decode cX2_remove 19 = .ok (.getfield 9, 3) := by decide +kernel
theorem dX2_remove_22 : decode cX2_remove 22 = .ok (.iconst 1, 1) := by decide +kernel
theorem dX2_remove_23 : decode cX2_remove 23 = .ok (.isub, 1) := by decide +kernel
theorem dX2_remove_24 : decode cX2_remove 24 = .ok (.putfield 9, 3) := by decide +kernel
theorem dX2_remove_27 : decode cX2_remove 27 = .ok (.iload_n 1, 1) := by decide +kernel
theorem dX2_remove_28 : decode cX2_remove 28 = .ok (.istore_n 2, 1) := by decide +kernel
theorem dX2_remove_29 : decode cX2_remove 29 = .ok (.iload_n 2, 1) := by decide +kernel
theorem dX2_remove_30 : decode cX2_remove 30 = .ok (.aload_n 0, 1) := by decide +kernel
theorem dX2_remove_31 : decode cX2_remove 31 = .ok (.getfield 9, 3) := by decide +kernel
theorem dX2_remove_34 : decode cX2_remove 34 = .ok (.if_icmp .ge 23, 3) := by decide +kernel
theorem dX2_remove_37 : decode cX2_remove 37 = .ok (.aload_n 0, 1) := by decide +kernel
theorem dX2_remove_38 : decode cX2_remove 38 = .ok (.getfield 17, 3) := by decide +kernel
theorem dX2_remove_41 : decode cX2_remove 41 = .ok (.iload_n 2, 1) := by decide +kernel
theorem dX2_remove_42 : decode cX2_remove 42 = .ok (.aload_n 0, 1) := by decide +kernel
theorem dX2_remove_43 : decode cX2_remove 43 = .ok (.getfield 17, 3) := by decide +kernel
theorem dX2_remove_46 : decode cX2_remove 46 = .ok (.iload_n 2, 1) := by decide +kernel
theorem dX2_remove_47 : decode cX2_remove 47 = .ok (.iconst 1, 1) := by decide +kernel
theorem dX2_remove_48 : decode cX2_remove 48 = .ok (.iadd, 1) := by decide +kernel
theorem dX2_remove_49 : decode cX2_remove 49 = .ok (.aaload, 1) := by decide +kernel
theorem dX2_remove_50 : decode cX2_remove 50 = .ok (.aastore, 1) := by decide +kernel
theorem dX2_remove_51 : decode cX2_remove 51 = .ok (.iinc 2 1, 3) := by decide +kernel
theorem dX2_remove_54 : decode cX2_remove 54 = .ok (.goto (-25), 3) := by decide +kernel
theorem dX2_remove_57 : decode cX2_remove 57 = .ok (.aload_n 0, 1) := by decide +kernel
theorem dX2_remove_58 : decode cX2_remove 58 = .ok (.getfield 9, 3) := by decide +kernel
theorem dX2_remove_61 : decode cX2_remove 61 = .ok (.ireturn, 1) := by decide +kernel
theorem dX2_become_0 : decode cX2_become 0 = .ok (.aload_n 0, 1) := by decide +kernel
theorem dX2_become_1 : decode cX2_become 1 = .ok (.aload_n 1, 1) := by decide +kernel
theorem dX2_become_2 : decode cX2_become 2 = .ok (.getfield 9, 3) := by decide +kernel
theorem dX2_become_5 : decode cX2_become 5 = .ok (.putfield 9, 3) := by decide +kernel
theorem dX2_become_8 : decode cX2_become 8 = .ok (.iconst 0, 1) := by decide +kernel
theorem dX2_become_9 : decode cX2_become 9 = .ok (.istore_n 2, 1) := by decide +kernel
theorem dX2_become_10 : decode cX2_become 10 = .ok (.iload_n 2, 1) := by decide +kernel
theorem dX2_become_11 : decode cX2_become 11 = .ok (.aload_n 0, 1) := by decide +kernel
theorem dX2_become_12 : decode cX2_become 12 = .ok (.getfield 9, 3) := by decide +kernel
theorem dX2_become_15 : decode cX2_become 15 = .ok (.if_icmp .ge 21, 3) := by decide +kernel
theorem dX2_become_18 : decode cX2_become 18 = .ok (.aload_n 0, 1) := by decide +kernel
theorem dX2_become_19 : decode cX2_become 19 = .ok (.getfield 17, 3) := by decide +kernel
theorem dX2_become_22 : decode cX2_become 22 = .ok (.iload_n 2, 1) := by decide +kernel
theorem dX2_become_23 : decode cX2_become 23 = .ok (.aload_n 1, 1) := by decide +kernel
theorem dX2_become_24 : decode cX2_become 24 = .ok (.getfield 17, 3) := by decide +kernel
theorem dX2_become_27 : decode cX2_become 27 = .ok (.iload_n 2, 1) := by decide +kernel
theorem dX2_become_28 : decode cX2_become 28 = .ok (.aaload, 1) := by decide +kernel
theorem dX2_become_29 : decode cX2_become 29 = .ok (.aastore, 1) := by decide +kernel
theorem dX2_become_30 : decode cX2_become 30 = .ok (.iinc 2 1, 3) := by decide +kernel
theorem dX2_become_33 : decode cX2_become 33 = .ok (.goto (-23), 3) := by decide +kernel
theorem dX2_become_36 : decode cX2_become 36 = .ok (.return_, 1) := by decide +kernel
theorem dX3_init_0 : decode cX3_init 0 = .ok (.aload_n 0, 1) := by decide +kernel
theorem dX3_init_1 : decode cX3_init 1 = .ok (.invokespecial 1, 3) := by decide +kernel
theorem dX3_init_4 : decode cX3_init 4 = .ok (.aload_n 0, 1) := by decide +kernel
theorem dX3_init_5 : decode cX3_init 5 = .ok (.iconst 0, 1) := by decide +kernel
theorem dX3_init_6 : decode cX3_init 6 = .ok (.putfield 7, 3) := by decide +kernel
theorem dX3_init_9 : decode cX3_init 9 = .ok (.aload_n 0, 1) := by decide +kernel
theorem dX3_init_10 : decode cX3_init 10 = .ok (.iconst 0, 1) := by decide +kernel
theorem dX3_init_11 : decode cX3_init 11 = .ok (.putfield 13, 3) := by decide +kernel
theorem dX3_init_14 : decode cX3_init 14 = .ok (.aload_n 0, 1) := by decide +kernel
theorem dX3_init_15 : decode cX3_init 15 = .ok (.bipush 16, 2) := by decide +kernel
theorem dX3_init_17 : decode cX3_init 17 = .ok (.anewarray 16, 3) := by decide +kernel
theorem dX3_init_20 : decode cX3_init 20 = .ok (.putfield 18, 3) := by decide +kernel
theorem dX3_init_23 : decode cX3_init 23 = .ok (.iconst 0, 1) := by decide +kernel
theorem dX3_init_24 : decode cX3_init 24 = .ok (.istore_n 1, 1) := by decide +kernel
theorem dX3_init_25 : decode cX3_init 25 = .ok (.iload_n 1, 1) := by decide +kernel
theorem dX3_init_26 : decode cX3_init 26 = .ok (.bipush 16, 2) := by decide +kernel
theorem dX3_init_28 : decode cX3_init 28 = .ok (.if_icmp .ge 22, 3) := by decide +kernel
theorem dX3_init_31 : decode cX3_init 31 = .ok (.aload_n 0, 1) := by decide +kernel
theorem dX3_init_32 : decode cX3_init 32 = .ok (.getfield 18, 3) := by decide +kernel
theorem dX3_init_35 : decode cX3_init 35 = .ok (.iload_n 1, 1) := by decide +kernel
theorem dX3_init_36 : decode cX3_init 36 = .ok (.new 16, 3) := by decide +kernel
theorem dX3_init_39 : decode cX3_init 39 = .ok (.dup, 1) := by decide +kernel
theorem dX3_init_40 : decode cX3_init 40 = .ok (.invokespecial 22, 3) := by decide +kernel
theorem dX3_init_43 : decode cX3_init 43 = .ok (.aastore, 1) := by decide +kernel
theorem dX3_init_44 : decode cX3_init 44 = .ok (.iinc 1 1, 3) := by decide +kernel
theorem dX3_init_47 : decode cX3_init 47 = .ok (.goto (-22), 3) := by decide +kernel
theorem dX3_init_50 : decode cX3_init 50 = .ok (.return_, 1) := by decide +kernel
theorem dX3_remember_0 : decode cX3_remember 0 = .ok (.aload_n 0, 1) := by decide +kernel
theorem dX3_remember_1 : decode cX3_remember 1 = .ok (.getfield 18, 3) := by decide +kernel
theorem dX3_remember_4 : decode cX3_remember 4 = .ok (.aload_n 0, 1) := by decide +kernel
theorem dX3_remember_5 : decode cX3_remember 5 = .ok (.getfield 13, 3) := by decide +kernel
theorem dX3_remember_8 : decode cX3_remember 8 = .ok (.aload_n 0, 1) := by decide +kernel
theorem dX3_remember_9 : decode cX3_remember 9 = .ok (.getfield 7, 3) := by decide +kernel
theorem dX3_remember_12 : decode cX3_remember 12 = .ok (.iadd, 1) := by decide +kernel
theorem dX3_remember_13 : decode cX3_remember 13 = .ok (.bipush 16, 2) := by decide +kernel
theorem dX3_remember_15 : decode cX3_remember 15 = .ok (.irem, 1) := by decide +kernel
theorem dX3_remember_16 : decode cX3_remember 16 = .ok (.aaload, 1) := by decide +kernel
theorem dX3_remember_17 : decode cX3_remember 17 = .ok (.aload_n 1, 1) := by decide +kernel
theorem dX3_remember_18 : decode cX3_remember 18 = .ok (.invokevirtual 23, 3) := by decide +kernel
theorem dX3_remember_21 : decode cX3_remember 21 = .ok (.aload_n 0, 1) := by decide +kernel
theorem dX3_remember_22 : decode cX3_remember 22 = .ok (.getfield 7, 3) := by decide +kernel
theorem dX3_remember_25 : decode cX3_remember 25 = .ok (.bipush 16, 2) := by decide +kernel
theorem dX3_remember_27 : decode cX3_remember 27 = .ok (.if_icmp .ge 16, 3) := by decide +kernel
theorem dX3_remember_30 : decode cX3_remember 30 = .ok (.aload_n 0, 1) := by decide +kernel
theorem dX3_remember_31 : decode cX3_remember 31 = .ok (.dup, 1) := by decide +kernel
theorem dX3_remember_32 : decode cX3_remember 32 = .ok (.getfield 7, 3) := by decide +kernel
theorem dX3_remember_35 : decode cX3_remember 35 = .ok (.iconst 1, 1) := by decide +kernel
theorem dX3_remember_36 : decode cX3_remember 36 = .ok (.iadd, 1) := by decide +kernel
theorem dX3_remember_37 : decode cX3_remember 37 = .ok (.putfield 7, 3) := by decide +kernel
theorem dX3_remember_40 : decode cX3_remember 40 = .ok (.goto 16, 3) := by decide +kernel
theorem dX3_remember_43 : decode cX3_remember 43 = .ok (.aload_n 0, 1) := by decide +kernel
theorem dX3_remember_44 : decode cX3_remember 44 = .ok (.aload_n 0, 1) := by decide +kernel
theorem dX3_remember_45 : decode cX3_remember 45 = .ok (.getfield 13, 3) := by decide +kernel
theorem dX3_remember_48 : decode cX3_remember 48 = .ok (.iconst 1, 1) := by decide +kernel
theorem dX3_remember_49 : decode cX3_remember 49 = .ok (.iadd, 1) := by decide +kernel
theorem dX3_remember_50 : decode cX3_remember 50 = .ok (.bipush 16, 2) := by decide +kernel
theorem dX3_remember_52 : decode cX3_remember 52 = .ok (.irem, 1) := by decide +kernel
theorem dX3_remember_53 : decode cX3_remember 53 = .ok (.putfield 13, 3) := by decide +kernel
theorem dX3_remember_56 : decode cX3_remember 56 = .ok (.return_, 1) := by decide +kernel
theorem dX3_takeBack_0 : decode cX3_takeBack 0 = .ok (.iload_n 1, 1) := by decide +kernel
theorem dX3_takeBack_1 : decode cX3_takeBack 1 = .ok (.iconst 1, 1) := by decide +kernel
theorem dX3_takeBack_2 : decode cX3_takeBack 2 = .ok (.aload_n 0, 1) := by decide +kernel
theorem dX3_takeBack_3 : decode cX3_takeBack 3 = .ok (.getfield 7, 3) := by decide +kernel
theorem dX3_takeBack_6 : decode cX3_takeBack 6 = .ok (.invokestatic 27, 3) := by decide +kernel
theorem dX3_takeBack_9 : decode cX3_takeBack 9 = .ok (.ifCond .eq 34, 3) := by decide +kernel
theorem dX3_takeBack_12 : decode cX3_takeBack 12 = .ok (.aload_n 0, 1) := by decide +kernel
theorem dX3_takeBack_13 : decode cX3_takeBack 13 = .ok (.dup, 1) := by decide +kernel
theorem dX3_takeBack_14 : decode cX3_takeBack 14 = .ok (.getfield 7, 3) := by decide +kernel
theorem dX3_takeBack_17 : decode cX3_takeBack 17 = .ok (.iload_n 1, 1) := by decide +kernel
theorem dX3_takeBack_18 : decode cX3_takeBack 18 = .ok (.isub, 1) := by decide +kernel
theorem dX3_takeBack_19 : decode cX3_takeBack 19 = .ok (.putfield 7, 3) := by decide +kernel
theorem dX3_takeBack_22 : decode cX3_takeBack 22 = .ok (.aload_n 2, 1) := by decide +kernel
theorem dX3_takeBack_23 : decode cX3_takeBack 23 = .ok (.aload_n 0, 1) := by decide +kernel
theorem dX3_takeBack_24 : decode cX3_takeBack 24 = .ok (.getfield 18, 3) := by decide +kernel
theorem dX3_takeBack_27 : decode cX3_takeBack 27 = .ok (.aload_n 0, 1) := by decide +kernel
theorem dX3_takeBack_28 : decode cX3_takeBack 28 = .ok (.getfield 13, 3) := by decide +kernel
theorem dX3_takeBack_31 : decode cX3_takeBack 31 = .ok (.aload_n 0, 1) := by decide +kernel
theorem dX3_takeBack_32 : decode cX3_takeBack 32 = .ok (.getfield 7, 3) := by decide +kernel
theorem dX3_takeBack_35 : decode cX3_takeBack 35 = .ok (.iadd, 1) := by decide +kernel
theorem dX3_takeBack_36 : decode cX3_takeBack 36 = .ok (.bipush 16, 2) := by decide +kernel
theorem dX3_takeBack_38 : decode cX3_takeBack 38 = .ok (.irem, 1) := by decide +kernel
theorem dX3_takeBack_39 : decode cX3_takeBack 39 = .ok (.aaload, 1) := by decide +kernel
theorem dX3_takeBack_40 : decode cX3_takeBack 40 = .ok (.invokevirtual 23, 3) := by decide +kernel
theorem dX3_takeBack_43 : decode cX3_takeBack 43 = .ok (.return_, 1) := by decide +kernel
theorem dX3_forget_0 : decode cX3_forget 0 = .ok (.aload_n 0, 1) := by decide +kernel
theorem dX3_forget_1 : decode cX3_forget 1 = .ok (.iconst 0, 1) := by decide +kernel
theorem dX3_forget_2 : decode cX3_forget 2 = .ok (.putfield 7, 3) := by decide +kernel
theorem dX3_forget_5 : decode cX3_forget 5 = .ok (.return_, 1) := by decide +kernel
theorem dX4_init_0 : decode cX4_init 0 = .ok (.aload_n 0, 1) := by decide +kernel
theorem dX4_init_1 : decode cX4_init 1 = .ok (.invokespecial 3, 3) := by decide +kernel
theorem dX4_init_4 : decode cX4_init 4 = .ok (.aload_n 0, 1) := by decide +kernel
theorem dX4_init_5 : decode cX4_init 5 = .ok (.iconst 1, 1) := by decide +kernel
theorem dX4_init_6 : decode cX4_init 6 = .ok (.putfield 9, 3) := by decide +kernel
theorem dX4_init_9 : decode cX4_init 9 = .ok (.aload_n 0, 1) := by decide +kernel
theorem dX4_init_10 : decode cX4_init 10 = .ok (.iconst 1, 1) := by decide +kernel
theorem dX4_init_11 : decode cX4_init 11 = .ok (.putfield 15, 3) := by decide +kernel
theorem dX4_init_14 : decode cX4_init 14 = .ok (.aload_n 0, 1) := by decide +kernel
theorem dX4_init_15 : decode cX4_init 15 = .ok (.bipush 80, 2) := by decide +kernel
theorem dX4_init_17 : decode cX4_init 17 = .ok (.newarray .int, 2) := by decide +kernel
theorem dX4_init_19 : decode cX4_init 19 = .ok (.putfield 18, 3) := by decide +kernel
theorem dX4_init_22 : decode cX4_init 22 = .ok (.aload_n 0, 1) := by decide +kernel
theorem dX4_init_23 : decode cX4_init 23 = .ok (.bipush 80, 2) := by decide +kernel
theorem dX4_init_25 : decode cX4_init 25 = .ok (.newarray .boolean, 2) := by decide +kernel
theorem dX4_init_27 : decode cX4_init 27 = .ok (.putfield 22, 3) := by decide +kernel
theorem dX4_init_30 : decode cX4_init 30 = .ok (.return_, 1) := by decide +kernel
theorem dX4_dots_0 : decode cX4_dots 0 = .ok (.aload_n 0, 1) := by decide +kernel
theorem dX4_dots_1 : decode cX4_dots 1 = .ok (.getfield 9, 3) := by decide +kernel
theorem dX4_dots_4 : decode cX4_dots 4 = .ok (.aload_n 0, 1) := by decide +kernel
theorem dX4_dots_5 : decode cX4_dots 5 = .ok (.getfield 15, 3) := by decide +kernel
theorem dX4_dots_8 : decode cX4_dots 8 = .ok (.imul, 1) := by decide +kernel
theorem dX4_dots_9 : decode cX4_dots 9 = .ok (.ireturn, 1) := by decide +kernel
theorem dX4_has_0 : decode cX4_has 0 = .ok (.iconst 0, 1) := by decide +kernel
theorem dX4_has_1 : decode cX4_has 1 = .ok (.iload_n 1, 1) := by decide +kernel
theorem dX4_has_2 : decode cX4_has 2 = .ok (.if_icmp .gt 28, 3) := by decide +kernel
theorem dX4_has_5 : decode cX4_has 5 = .ok (.iload_n 1, 1) := by decide +kernel
theorem dX4_has_6 : decode cX4_has 6 = .ok (.aload_n 0, 1) := by decide +kernel
theorem dX4_has_7 : decode cX4_has 7 = .ok (.getfield 9, 3) := by decide +kernel
theorem dX4_has_10 : decode cX4_has 10 = .ok (.if_icmp .ge 20, 3) := by decide +kernel
theorem dX4_has_13 : decode cX4_has 13 = .ok (.iconst 0, 1) := by decide +kernel
theorem dX4_has_14 : decode cX4_has 14 = .ok (.iload_n 2, 1) := by decide +kernel
theorem dX4_has_15 : decode cX4_has 15 = .ok (.if_icmp .gt 15, 3) := by decide +kernel
theorem dX4_has_18 : decode cX4_has 18 = .ok (.iload_n 2, 1) := by decide +kernel
theorem dX4_has_19 : decode cX4_has 19 = .ok (.aload_n 0, 1) := by decide +kernel
theorem dX4_has_20 : decode cX4_has 20 = .ok (.getfield 15, 3) := by decide +kernel
theorem dX4_has_23 : decode cX4_has 23 = .ok (.if_icmp .ge 7, 3) := by decide +kernel
theorem dX4_has_26 : decode cX4_has 26 = .ok (.iconst 1, 1) := by decide +kernel
theorem dX4_has_27 : decode cX4_has 27 = .ok (.goto 4, 3) := by decide +kernel
theorem dX4_has_30 : decode cX4_has 30 = .ok (.iconst 0, 1) := by decide +kernel
theorem dX4_has_31 : decode cX4_has 31 = .ok (.ireturn, 1) := by decide +kernel
theorem dX4_greyOf_0 : decode cX4_greyOf 0 = .ok (.aload_n 0, 1) := by decide +kernel
theorem dX4_greyOf_1 : decode cX4_greyOf 1 = .ok (.iload_n 1, 1) := by decide +kernel
theorem dX4_greyOf_2 : decode cX4_greyOf 2 = .ok (.iload_n 2, 1) := by decide +kernel
theorem dX4_greyOf_3 : decode cX4_greyOf 3 = .ok (.invokevirtual 26, 3) := by decide +kernel
theorem dX4_greyOf_6 : decode cX4_greyOf 6 = .ok (.ifCond .eq 19, 3) := by decide +kernel
theorem dX4_greyOf_9 : decode cX4_greyOf 9 = .ok (.aload_n 0, 1) := by decide +kernel
theorem dX4_greyOf_10 : decode cX4_greyOf 10 = .ok (.getfield 18, 3) := by decide +kernel
theorem dX4_greyOf_13 : decode cX4_greyOf 13 = .ok (.iload_n 2, 1) := by decide +kernel
theorem dX4_greyOf_14 : decode cX4_greyOf 14 = .ok (.aload_n 0, 1) := by decide +kernel
theorem dX4_greyOf_15 : decode cX4_greyOf 15 = .ok (.getfield 9, 3) := by decide +kernel
theorem dX4_greyOf_18 : decode cX4_greyOf 18 = .ok (.imul, 1) := by decide +kernel
theorem dX4_greyOf_19 : decode cX4_greyOf 19 = .ok (.iload_n 1, 1) := by decide +kernel
theorem dX4_greyOf_20 : decode cX4_greyOf 20 = .ok (.iadd, 1) := by decide +kernel
theorem dX4_greyOf_21 : decode cX4_greyOf 21 = .ok (.iaload, 1) := by decide +kernel
theorem dX4_greyOf_22 : decode cX4_greyOf 22 = .ok (.goto 4, 3) := by decide +kernel
theorem dX4_greyOf_25 : decode cX4_greyOf 25 = .ok (.iconst 0, 1) := by decide +kernel
theorem dX4_greyOf_26 : decode cX4_greyOf 26 = .ok (.ireturn, 1) := by decide +kernel
theorem dX4_isMasked_0 : decode cX4_isMasked 0 = .ok (.aload_n 0, 1) := by decide +kernel
theorem dX4_isMasked_1 : decode cX4_isMasked 1 = .ok (.iload_n 1, 1) := by decide +kernel
theorem dX4_isMasked_2 : decode cX4_isMasked 2 = .ok (.iload_n 2, 1) := by decide +kernel
theorem dX4_isMasked_3 : decode cX4_isMasked 3 = .ok (.invokevirtual 26, 3) := by decide +kernel
theorem dX4_isMasked_6 : decode cX4_isMasked 6 = .ok (.ifCond .eq 23, 3) := by decide +kernel
theorem dX4_isMasked_9 : decode cX4_isMasked 9 = .ok (.aload_n 0, 1) := by decide +kernel
theorem dX4_isMasked_10 : decode cX4_isMasked 10 = .ok (.getfield 22, 3) := by decide +kernel
theorem dX4_isMasked_13 : decode cX4_isMasked 13 = .ok (.iload_n 2, 1) := by decide +kernel
theorem dX4_isMasked_14 : decode cX4_isMasked 14 = .ok (.aload_n 0, 1) := by decide +kernel
theorem dX4_isMasked_15 : decode cX4_isMasked 15 = .ok (.getfield 9, 3) := by decide +kernel
theorem dX4_isMasked_18 : decode cX4_isMasked 18 = .ok (.imul, 1) := by decide +kernel
theorem dX4_isMasked_19 : decode cX4_isMasked 19 = .ok (.iload_n 1, 1) := by decide +kernel
theorem dX4_isMasked_20 : decode cX4_isMasked 20 = .ok (.iadd, 1) := by decide +kernel
theorem dX4_isMasked_21 : decode cX4_isMasked 21 = .ok (.baload, 1) := by decide +kernel
theorem dX4_isMasked_22 : decode cX4_isMasked 22 = .ok (.ifCond .eq 7, 3) := by decide +kernel
theorem dX4_isMasked_25 : decode cX4_isMasked 25 = .ok (.iconst 1, 1) := by decide +kernel
theorem dX4_isMasked_26 : decode cX4_isMasked 26 = .ok (.goto 4, 3) := by decide +kernel
theorem dX4_isMasked_29 : decode cX4_isMasked 29 = .ok (.iconst 0, 1) := by decide +kernel
theorem dX4_isMasked_30 : decode cX4_isMasked 30 = .ok (.ireturn, 1) := by decide +kernel
theorem dX4_setGrey_0 : decode cX4_setGrey 0 = .ok (.aload_n 0, 1) := by decide +kernel
theorem dX4_setGrey_1 : decode cX4_setGrey 1 = .ok (.iload_n 1, 1) := by decide +kernel
theorem dX4_setGrey_2 : decode cX4_setGrey 2 = .ok (.iload_n 2, 1) := by decide +kernel
theorem dX4_setGrey_3 : decode cX4_setGrey 3 = .ok (.invokevirtual 26, 3) := by decide +kernel
theorem dX4_setGrey_6 : decode cX4_setGrey 6 = .ok (.ifCond .eq 17, 3) := by decide +kernel
theorem dX4_setGrey_9 : decode cX4_setGrey 9 = .ok (.aload_n 0, 1) := by decide +kernel
theorem dX4_setGrey_10 : decode cX4_setGrey 10 = .ok (.getfield 18, 3) := by decide +kernel
theorem dX4_setGrey_13 : decode cX4_setGrey 13 = .ok (.iload_n 2, 1) := by decide +kernel
theorem dX4_setGrey_14 : decode cX4_setGrey 14 = .ok (.aload_n 0, 1) := by decide +kernel
theorem dX4_setGrey_15 : decode cX4_setGrey 15 = .ok (.getfield 9, 3) := by decide +kernel
theorem dX4_setGrey_18 : decode cX4_setGrey 18 = .ok (.imul, 1) := by decide +kernel
theorem dX4_setGrey_19 : decode cX4_setGrey 19 = .ok (.iload_n 1, 1) := by decide +kernel
theorem dX4_setGrey_20 : decode cX4_setGrey 20 = .ok (.iadd, 1) := by decide +kernel
theorem dX4_setGrey_21 : decode cX4_setGrey 21 = .ok (.iload_n 3, 1) := by decide +kernel
theorem dX4_setGrey_22 : decode cX4_setGrey 22 = .ok (.iastore, 1) := by decide +kernel
theorem dX4_setGrey_23 : decode cX4_setGrey 23 = .ok (.return_, 1) := by decide +kernel
theorem dX4_setMasked_0 : decode cX4_setMasked 0 = .ok (.aload_n 0, 1) := by decide +kernel
theorem dX4_setMasked_1 : decode cX4_setMasked 1 = .ok (.iload_n 1, 1) := by decide +kernel
theorem dX4_setMasked_2 : decode cX4_setMasked 2 = .ok (.iload_n 2, 1) := by decide +kernel
theorem dX4_setMasked_3 : decode cX4_setMasked 3 = .ok (.invokevirtual 26, 3) := by decide +kernel
theorem dX4_setMasked_6 : decode cX4_setMasked 6 = .ok (.ifCond .eq 17, 3) := by decide +kernel
theorem dX4_setMasked_9 : decode cX4_setMasked 9 = .ok (.aload_n 0, 1) := by decide +kernel
theorem dX4_setMasked_10 : decode cX4_setMasked 10 = .ok (.getfield 22, 3) := by decide +kernel
theorem dX4_setMasked_13 : decode cX4_setMasked 13 = .ok (.iload_n 2, 1) := by decide +kernel
theorem dX4_setMasked_14 : decode cX4_setMasked 14 = .ok (.aload_n 0, 1) := by decide +kernel
theorem dX4_setMasked_15 : decode cX4_setMasked 15 = .ok (.getfield 9, 3) := by decide +kernel
theorem dX4_setMasked_18 : decode cX4_setMasked 18 = .ok (.imul, 1) := by decide +kernel
theorem dX4_setMasked_19 : decode cX4_setMasked 19 = .ok (.iload_n 1, 1) := by decide +kernel
theorem dX4_setMasked_20 : decode cX4_setMasked 20 = .ok (.iadd, 1) := by decide +kernel
theorem dX4_setMasked_21 : decode cX4_setMasked 21 = .ok (.iload_n 3, 1) := by decide +kernel
theorem dX4_setMasked_22 : decode cX4_setMasked 22 = .ok (.bastore, 1) := by decide +kernel
theorem dX4_setMasked_23 : decode cX4_setMasked 23 = .ok (.return_, 1) := by decide +kernel
theorem dX4_setInOrder_0 : decode cX4_setInOrder 0 = .ok (.iload_n 1, 1) := by decide +kernel
theorem dX4_setInOrder_1 : decode cX4_setInOrder 1 = .ok (.iconst 0, 1) := by decide +kernel
theorem dX4_setInOrder_2 : decode cX4_setInOrder 2 = .ok (.bipush 79, 2) := by decide +kernel
theorem dX4_setInOrder_4 : decode cX4_setInOrder 4 = .ok (.invokestatic 30, 3) := by decide +kernel
theorem dX4_setInOrder_7 : decode cX4_setInOrder 7 = .ok (.ifCond .eq 17, 3) := by decide +kernel
theorem dX4_setInOrder_10 : decode cX4_setInOrder 10 = .ok (.aload_n 0, 1) := by decide +kernel
theorem dX4_setInOrder_11 : decode cX4_setInOrder 11 = .ok (.getfield 18, 3) := by decide +kernel
theorem dX4_setInOrder_14 : decode cX4_setInOrder 14 = .ok (.iload_n 1, 1) := by decide +kernel
theorem dX4_setInOrder_15 : decode cX4_setInOrder 15 = .ok (.iload_n 2, 1) := by decide +kernel
theorem dX4_setInOrder_16 : decode cX4_setInOrder 16 = .ok (.iastore, 1) := by decide +kernel
theorem dX4_setInOrder_17 : decode cX4_setInOrder 17 = .ok (.aload_n 0, 1) := by decide +kernel
theorem dX4_setInOrder_18 : decode cX4_setInOrder 18 = .ok (.getfield 22, 3) := by decide +kernel
theorem dX4_setInOrder_21 : decode cX4_setInOrder 21 = .ok (.iload_n 1, 1) := by decide +kernel
theorem dX4_setInOrder_22 : decode cX4_setInOrder 22 = .ok (.iload_n 3, 1) := by decide +kernel
theorem dX4_setInOrder_23 : decode cX4_setInOrder 23 = .ok (.bastore, 1) := by decide +kernel
theorem dX4_setInOrder_24 : decode cX4_setInOrder 24 = .ok (.return_, 1) := by decide +kernel
theorem dX4_setSize_0 : decode cX4_setSize 0 = .ok (.iload_n 1, 1) := by decide +kernel
theorem dX4_setSize_1 : decode cX4_setSize 1 = .ok (.iconst 1, 1) := by decide +kernel
theorem dX4_setSize_2 : decode cX4_setSize 2 = .ok (.bipush 10, 2) := by decide +kernel
theorem dX4_setSize_4 : decode cX4_setSize 4 = .ok (.invokestatic 30, 3) := by decide +kernel
theorem dX4_setSize_7 : decode cX4_setSize 7 = .ok (.ifCond .eq 23, 3) := by decide +kernel
theorem dX4_setSize_10 : decode cX4_setSize 10 = .ok (.iload_n 2, 1) := by decide +kernel
theorem dX4_setSize_11 : decode cX4_setSize 11 = .ok (.iconst 1, 1) := by decide +kernel
theorem dX4_setSize_12 : decode cX4_setSize 12 = .ok (.bipush 8, 2) := by decide +kernel
theorem dX4_setSize_14 : decode cX4_setSize 14 = .ok (.invokestatic 30, 3) := by decide +kernel
theorem dX4_setSize_17 : decode cX4_setSize 17 = .ok (.ifCond .eq 13, 3) := by decide +kernel
theorem dX4_setSize_20 : decode cX4_setSize 20 = .ok (.aload_n 0, 1) := by decide +kernel
theorem dX4_setSize_21 : decode cX4_setSize 21 = .ok (.iload_n 1, 1) := by decide +kernel
theorem dX4_setSize_22 : decode cX4_setSize 22 = .ok (.putfield 9, 3) := by decide +kernel
theorem dX4_setSize_25 : decode cX4_setSize 25 = .ok (.aload_n 0, 1) := by decide +kernel
theorem dX4_setSize_26 : decode cX4_setSize 26 = .ok (.iload_n 2, 1) := by decide +kernel
theorem dX4_setSize_27 : decode cX4_setSize 27 = .ok (.putfield 15, 3) := by decide +kernel
theorem dX4_setSize_30 : decode cX4_setSize 30 = .ok (.return_, 1) := by decide +kernel
theorem dX4_become_0 : decode cX4_become 0 = .ok (.aload_n 0, 1) := by decide +kernel
theorem dX4_become_1 : decode cX4_become 1 = .ok (.aload_n 1, 1) := by decide +kernel
theorem dX4_become_2 : decode cX4_become 2 = .ok (.getfield 9, 3) := by decide +kernel
theorem dX4_become_5 : decode cX4_become 5 = .ok (.aload_n 1, 1) := by decide +kernel
theorem dX4_become_6 : decode cX4_become 6 = .ok (.getfield 15, 3) := by decide +kernel
theorem dX4_become_9 : decode cX4_become 9 = .ok (.invokevirtual 34, 3) := by decide +kernel
theorem dX4_become_12 : decode cX4_become 12 = .ok (.iconst 0, 1) := by decide +kernel
theorem dX4_become_13 : decode cX4_become 13 = .ok (.istore_n 2, 1) := by decide +kernel
theorem dX4_become_14 : decode cX4_become 14 = .ok (.iload_n 2, 1) := by decide +kernel
theorem dX4_become_15 : decode cX4_become 15 = .ok (.aload_n 0, 1) := by decide +kernel
theorem dX4_become_16 : decode cX4_become 16 = .ok (.invokevirtual 38, 3) := by decide +kernel
theorem dX4_become_19 : decode cX4_become 19 = .ok (.if_icmp .ge 33, 3) := by decide +kernel
theorem dX4_become_22 : decode cX4_become 22 = .ok (.aload_n 0, 1) := by decide +kernel
theorem dX4_become_23 : decode cX4_become 23 = .ok (.getfield 18, 3) := by decide +kernel
theorem dX4_become_26 : decode cX4_become 26 = .ok (.iload_n 2, 1) := by decide +kernel
theorem dX4_become_27 : decode cX4_become 27 = .ok (.aload_n 1, 1) := by decide +kernel
theorem dX4_become_28 : decode cX4_become 28 = .ok (.getfield 18, 3) := by decide +kernel
theorem dX4_become_31 : decode cX4_become 31 = .ok (.iload_n 2, 1) := by decide +kernel
theorem dX4_become_32 : decode cX4_become 32 = .ok (.iaload, 1) := by decide +kernel
theorem dX4_become_33 : decode cX4_become 33 = .ok (.iastore, 1) := by decide +kernel
theorem dX4_become_34 : decode cX4_become 34 = .ok (.aload_n 0, 1) := by decide +kernel
theorem dX4_become_35 : decode cX4_become 35 = .ok (.getfield 22, 3) := by decide +kernel
theorem dX4_become_38 : decode cX4_become 38 = .ok (.iload_n 2, 1) := by decide +kernel
theorem dX4_become_39 : decode cX4_become 39 = .ok (.aload_n 1, 1) := by decide +kernel
theorem dX4_become_40 : decode cX4_become 40 = .ok (.getfield 22, 3) := by decide +kernel
theorem dX4_become_43 : decode cX4_become 43 = .ok (.iload_n 2, 1) := by decide +kernel
theorem dX4_become_44 : decode cX4_become 44 = .ok (.baload, 1) := by decide +kernel
theorem dX4_become_45 : decode cX4_become 45 = .ok (.bastore, 1) := by decide +kernel
theorem dX4_become_46 : decode cX4_become 46 = .ok (.iinc 2 1, 3) := by decide +kernel
theorem dX4_become_49 : decode cX4_become 49 = .ok (.goto (-35), 3) := by decide +kernel
theorem dX4_become_52 : decode cX4_become 52 = .ok (.return_, 1) := by decide +kernel
theorem dX4_becomeTurned_0 : decode cX4_becomeTurned 0 = .ok (.iload_n 2, 1) := by decide +kernel
theorem dX4_becomeTurned_1 : decode cX4_becomeTurned 1 = .ok (.iconst 2, 1) := by decide +kernel
theorem dX4_becomeTurned_2 : decode cX4_becomeTurned 2 = .ok (.if_icmp .ne 7, 3) := by decide +kernel
theorem dX4_becomeTurned_5 : decode cX4_becomeTurned 5 = .ok (.iconst 1, 1) := by decide +kernel
theorem dX4_becomeTurned_6 : decode cX4_becomeTurned 6 = .ok (.goto 4, 3) := by decide +kernel
theorem dX4_becomeTurned_9 : decode cX4_becomeTurned 9 = .ok (.iconst 0, 1) := by decide +kernel
theorem dX4_becomeTurned_10 : decode cX4_becomeTurned 10 = .ok (.istore_n 3, 1) := by decide +kernel
theorem dX4_becomeTurned_11 : decode cX4_becomeTurned 11 = .ok (.aload_n 0, 1) := by decide +kernel
theorem dX4_becomeTurned_12 : decode cX4_becomeTurned 12 = .ok (.iload_n 3, 1) := by decide +kernel
theorem dX4_becomeTurned_13 : decode cX4_becomeTurned 13 = .ok (.ifCond .eq 10, 3) := by decide +kernel
theorem dX4_becomeTurned_16 : decode cX4_becomeTurned 16 = .ok (.aload_n 1, 1) := by decide +kernel
theorem dX4_becomeTurned_17 : decode cX4_becomeTurned 17 = .ok (.getfield 15, 3) := by decide +kernel
theorem dX4_becomeTurned_20 : decode cX4_becomeTurned 20 = .ok (.goto 7, 3) := by decide +kernel
theorem dX4_becomeTurned_23 : decode cX4_becomeTurned 23 = .ok (.aload_n 1, 1) := by decide +kernel
theorem dX4_becomeTurned_24 : decode cX4_becomeTurned 24 = .ok (.getfield 9, 3) := by decide +kernel
theorem dX4_becomeTurned_27 : decode cX4_becomeTurned 27 = .ok (.iload_n 3, 1) := by decide +kernel
theorem dX4_becomeTurned_28 : decode cX4_becomeTurned 28 = .ok (.ifCond .eq 10, 3) := by decide +kernel
theorem dX4_becomeTurned_31 : decode cX4_becomeTurned 31 = .ok (.aload_n 1, 1) := by decide +kernel
theorem dX4_becomeTurned_32 : decode cX4_becomeTurned 32 = .ok (.getfield 9, 3) := by decide +kernel
theorem dX4_becomeTurned_35 : decode cX4_becomeTurned 35 = .ok (.goto 7, 3) := by decide +kernel
theorem dX4_becomeTurned_38 : decode cX4_becomeTurned 38 = .ok (.aload_n 1, 1) := by decide +kernel
theorem dX4_becomeTurned_39 : decode cX4_becomeTurned 39 = .ok (.getfield 15, 3) := by decide +kernel
theorem dX4_becomeTurned_42 : decode cX4_becomeTurned 42 = .ok (.invokevirtual 34, 3) := by decide +kernel
theorem dX4_becomeTurned_45 : decode cX4_becomeTurned 45 = .ok (.iconst 0, 1) := by decide +kernel
theorem dX4_becomeTurned_46 : decode cX4_becomeTurned 46 = .ok (.istore 4, 2) := by decide +kernel
theorem dX4_becomeTurned_48 : decode cX4_becomeTurned 48 = .ok (.iload 4, 2) := by decide +kernel
theorem dX4_becomeTurned_50 : decode cX4_becomeTurned 50 = .ok (.aload_n 0, 1) := by decide +kernel
theorem dX4_becomeTurned_51 : decode cX4_becomeTurned 51 = .ok (.getfield 15, 3) := by decide +kernel
theorem dX4_becomeTurned_54 : decode cX4_becomeTurned 54 = .ok (.if_icmp .ge 136, 3) := by decide +kernel
theorem dX4_becomeTurned_57 : decode cX4_becomeTurned 57 = .ok (.iconst 0, 1) := by decide +kernel
theorem dX4_becomeTurned_58 : decode cX4_becomeTurned 58 = .ok (.istore 5, 2) := by decide +kernel
theorem dX4_becomeTurned_60 : decode cX4_becomeTurned 60 = .ok (.iload 5, 2) := by decide +kernel
theorem dX4_becomeTurned_62 : decode cX4_becomeTurned 62 = .ok (.aload_n 0, 1) := by decide +kernel
theorem dX4_becomeTurned_63 : decode cX4_becomeTurned 63 = .ok (.getfield 9, 3) := by decide +kernel
theorem dX4_becomeTurned_66 : decode cX4_becomeTurned 66 = .ok (.if_icmp .ge 118, 3) := by decide +kernel
theorem dX4_becomeTurned_69 : decode cX4_becomeTurned 69 = .ok (.iload_n 3, 1) := by decide +kernel
theorem dX4_becomeTurned_70 : decode cX4_becomeTurned 70 = .ok (.ifCond .eq 8, 3) := by decide +kernel
theorem dX4_becomeTurned_73 : decode cX4_becomeTurned 73 = .ok (.iload 4, 2) := by decide +kernel
theorem dX4_becomeTurned_75 : decode cX4_becomeTurned 75 = .ok (.goto 21, 3) := by decide +kernel
theorem dX4_becomeTurned_78 : decode cX4_becomeTurned 78 = .ok (.iload_n 2, 1) := by decide +kernel
theorem dX4_becomeTurned_79 : decode cX4_becomeTurned 79 = .ok (.ifCond .ne 15, 3) := by decide +kernel
theorem dX4_becomeTurned_82 : decode cX4_becomeTurned 82 = .ok (.aload_n 0, 1) := by decide +kernel
theorem dX4_becomeTurned_83 : decode cX4_becomeTurned 83 = .ok (.getfield 9, 3) := by decide +kernel
theorem dX4_becomeTurned_86 : decode cX4_becomeTurned 86 = .ok (.iconst 1, 1) := by decide +kernel
theorem dX4_becomeTurned_87 : decode cX4_becomeTurned 87 = .ok (.isub, 1) := by decide +kernel
theorem dX4_becomeTurned_88 : decode cX4_becomeTurned 88 = .ok (.iload 5, 2) := by decide +kernel
theorem dX4_becomeTurned_90 : decode cX4_becomeTurned 90 = .ok (.isub, 1) := by decide +kernel
theorem dX4_becomeTurned_91 : decode cX4_becomeTurned 91 = .ok (.goto 5, 3) := by decide +kernel
theorem dX4_becomeTurned_94 : decode cX4_becomeTurned 94 = .ok (.iload 5, 2) := by decide +kernel
theorem dX4_becomeTurned_96 : decode cX4_becomeTurned 96 = .ok (.istore 6, 2) := by decide +kernel
theorem dX4_becomeTurned_98 : decode cX4_becomeTurned 98 = .ok (.iload_n 3, 1) := by decide +kernel
theorem dX4_becomeTurned_99 : decode cX4_becomeTurned 99 = .ok (.ifCond .eq 8, 3) := by decide +kernel
theorem dX4_becomeTurned_102 : decode cX4_becomeTurned 102 = .ok (.iload 5, 2) := by decide +kernel
theorem dX4_becomeTurned_104 : decode cX4_becomeTurned 104 = .ok (.goto 22, 3) := by decide +kernel
theorem dX4_becomeTurned_107 : decode cX4_becomeTurned 107 = .ok (.iload_n 2, 1) := by decide +kernel
theorem dX4_becomeTurned_108 : decode cX4_becomeTurned 108 = .ok (.iconst 1, 1) := by decide +kernel
theorem dX4_becomeTurned_109 : decode cX4_becomeTurned 109 = .ok (.if_icmp .ne 15, 3) := by decide +kernel
theorem dX4_becomeTurned_112 : decode cX4_becomeTurned 112 = .ok (.aload_n 0, 1) := by decide +kernel
theorem dX4_becomeTurned_113 : decode cX4_becomeTurned 113 = .ok (.getfield 15, 3) := by decide +kernel
theorem dX4_becomeTurned_116 : decode cX4_becomeTurned 116 = .ok (.iconst 1, 1) := by decide +kernel
theorem dX4_becomeTurned_117 : decode cX4_becomeTurned 117 = .ok (.isub, 1) := by decide +kernel
theorem dX4_becomeTurned_118 : decode cX4_becomeTurned 118 = .ok (.iload 4, 2) := by decide +kernel
theorem dX4_becomeTurned_120 : decode cX4_becomeTurned 120 = .ok (.isub, 1) := by decide +kernel
theorem dX4_becomeTurned_121 : decode cX4_becomeTurned 121 = .ok (.goto 5, 3) := by decide +kernel
theorem dX4_becomeTurned_124 : decode cX4_becomeTurned 124 = .ok (.iload 4, 2) := by decide +kernel
theorem dX4_becomeTurned_126 : decode cX4_becomeTurned 126 = .ok (.istore 7, 2) := by decide +kernel
theorem dX4_becomeTurned_128 : decode cX4_becomeTurned 128 = .ok (.aload_n 1, 1) := by decide +kernel
theorem dX4_becomeTurned_129 : decode cX4_becomeTurned 129 = .ok (.iload 6, 2) := by decide +kernel
theorem dX4_becomeTurned_131 : decode cX4_becomeTurned 131 = .ok (.iload 7, 2) := by decide +kernel
theorem dX4_becomeTurned_133 : decode cX4_becomeTurned 133 = .ok (.invokevirtual 42, 3) := by decide +kernel
theorem dX4_becomeTurned_136 : decode cX4_becomeTurned 136 = .ok (.istore 8, 2) := by decide +kernel
theorem dX4_becomeTurned_138 : decode cX4_becomeTurned 138 = .ok (.aload_n 0, 1) := by decide +kernel
theorem dX4_becomeTurned_139 : decode cX4_becomeTurned 139 = .ok (.iload 5, 2) := by decide +kernel
theorem dX4_becomeTurned_141 : decode cX4_becomeTurned 141 = .ok (.iload 4, 2) := by decide +kernel
theorem dX4_becomeTurned_143 : decode cX4_becomeTurned 143 = .ok (.iload_n 2, 1) := by decide +kernel
theorem dX4_becomeTurned_144 : decode cX4_becomeTurned 144 = .ok (.iconst 3, 1) := by decide +kernel
theorem dX4_becomeTurned_145 : decode cX4_becomeTurned 145 = .ok (.if_icmp .ne 12, 3) := by decide +kernel
theorem dX4_becomeTurned_148 : decode cX4_becomeTurned 148 = .ok (.sipush 255, 3) := by decide +kernel
theorem dX4_becomeTurned_151 : decode cX4_becomeTurned 151 = .ok (.iload 8, 2) := by decide +kernel
theorem dX4_becomeTurned_153 : decode cX4_becomeTurned 153 = .ok (.isub, 1) := by decide +kernel
theorem dX4_becomeTurned_154 : decode cX4_becomeTurned 154 = .ok (.goto 5, 3) := by decide +kernel
theorem dX4_becomeTurned_157 : decode cX4_becomeTurned 157 = .ok (.iload 8, 2) := by decide +kernel
theorem dX4_becomeTurned_159 : decode cX4_becomeTurned 159 = .ok (.invokevirtual 46, 3) := by decide +kernel
theorem dX4_becomeTurned_162 : decode cX4_becomeTurned 162 = .ok (.aload_n 0, 1) := by decide +kernel
theorem dX4_becomeTurned_163 : decode cX4_becomeTurned 163 = .ok (.iload 5, 2) := by decide +kernel
theorem dX4_becomeTurned_165 : decode cX4_becomeTurned 165 = .ok (.iload 4, 2) := by decide +kernel
theorem dX4_becomeTurned_167 : decode cX4_becomeTurned 167 = .ok (.aload_n 1, 1) := by decide +kernel
theorem dX4_becomeTurned_168 : decode cX4_becomeTurned 168 = .ok (.iload 6, 2) := by decide +kernel
theorem dX4_becomeTurned_170 : decode cX4_becomeTurned 170 = .ok (.iload 7, 2) := by decide +kernel
theorem dX4_becomeTurned_172 : decode cX4_becomeTurned 172 = .ok (.invokevirtual 50, 3) := by decide +kernel
theorem dX4_becomeTurned_175 : decode cX4_becomeTurned 175 = .ok (.invokevirtual 53, 3) := by decide +kernel
theorem dX4_becomeTurned_178 : decode cX4_becomeTurned 178 = .ok (.iinc 5 1, 3) := by decide +kernel
theorem dX4_becomeTurned_181 : decode cX4_becomeTurned 181 = .ok (.goto (-121), 3) := by decide +kernel
theorem dX4_becomeTurned_184 : decode cX4_becomeTurned 184 = .ok (.iinc 4 1, 3) := by decide +kernel
theorem dX4_becomeTurned_187 : decode cX4_becomeTurned 187 = .ok (.goto (-139), 3) := by decide +kernel
theorem dX4_becomeTurned_190 : decode cX4_becomeTurned 190 = .ok (.return_, 1) := by decide +kernel
theorem dX4_maskedDots_0 : decode cX4_maskedDots 0 = .ok (.iconst 0, 1) := by decide +kernel
theorem dX4_maskedDots_1 : decode cX4_maskedDots 1 = .ok (.istore_n 1, 1) := by decide +kernel
theorem dX4_maskedDots_2 : decode cX4_maskedDots 2 = .ok (.iconst 0, 1) := by decide +kernel
theorem dX4_maskedDots_3 : decode cX4_maskedDots 3 = .ok (.istore_n 2, 1) := by decide +kernel
theorem dX4_maskedDots_4 : decode cX4_maskedDots 4 = .ok (.iload_n 2, 1) := by decide +kernel
theorem dX4_maskedDots_5 : decode cX4_maskedDots 5 = .ok (.aload_n 0, 1) := by decide +kernel
theorem dX4_maskedDots_6 : decode cX4_maskedDots 6 = .ok (.invokevirtual 38, 3) := by decide +kernel
theorem dX4_maskedDots_9 : decode cX4_maskedDots 9 = .ok (.if_icmp .ge 21, 3) := by decide +kernel
theorem dX4_maskedDots_12 : decode cX4_maskedDots 12 = .ok (.aload_n 0, 1) := by decide +kernel
theorem dX4_maskedDots_13 : decode cX4_maskedDots 13 = .ok (.getfield 22, 3) := by decide +kernel
theorem dX4_maskedDots_16 : decode cX4_maskedDots 16 = .ok (.iload_n 2, 1) := by decide +kernel
theorem dX4_maskedDots_17 : decode cX4_maskedDots 17 = .ok (.baload, 1) := by decide +kernel
theorem dX4_maskedDots_18 : decode cX4_maskedDots 18 = .ok (.ifCond .eq 6, 3) := by decide +kernel
theorem dX4_maskedDots_21 : decode cX4_maskedDots 21 = .ok (.iinc 1 1, 3) := by decide +kernel
theorem dX4_maskedDots_24 : decode cX4_maskedDots 24 = .ok (.iinc 2 1, 3) := by decide +kernel
theorem dX4_maskedDots_27 : decode cX4_maskedDots 27 = .ok (.goto (-23), 3) := by decide +kernel
theorem dX4_maskedDots_30 : decode cX4_maskedDots 30 = .ok (.iload_n 1, 1) := by decide +kernel
theorem dX4_maskedDots_31 : decode cX4_maskedDots 31 = .ok (.ireturn, 1) := by decide +kernel
theorem dX4_leastGrey_0 : decode cX4_leastGrey 0 = .ok (.iconst (-1), 1) := by decide +kernel
theorem dX4_leastGrey_1 : decode cX4_leastGrey 1 = .ok (.istore_n 1, 1) := by decide +kernel
theorem dX4_leastGrey_2 : decode cX4_leastGrey 2 = .ok (.iconst 0, 1) := by decide +kernel
theorem dX4_leastGrey_3 : decode cX4_leastGrey 3 = .ok (.istore_n 2, 1) := by decide +kernel
theorem dX4_leastGrey_4 : decode cX4_leastGrey 4 = .ok (.iload_n 2, 1) := by decide +kernel
theorem dX4_leastGrey_5 : decode cX4_leastGrey 5 = .ok (.aload_n 0, 1) := by decide +kernel
theorem dX4_leastGrey_6 : decode cX4_leastGrey 6 = .ok (.invokevirtual 38, 3) := by decide +kernel
theorem dX4_leastGrey_9 : decode cX4_leastGrey 9 = .ok (.if_icmp .ge 40, 3) := by decide +kernel
theorem dX4_leastGrey_12 : decode cX4_leastGrey 12 = .ok (.aload_n 0, 1) := by decide +kernel
theorem dX4_leastGrey_13 : decode cX4_leastGrey 13 = .ok (.getfield 22, 3) := by decide +kernel
theorem dX4_leastGrey_16 : decode cX4_leastGrey 16 = .ok (.iload_n 2, 1) := by decide +kernel
theorem dX4_leastGrey_17 : decode cX4_leastGrey 17 = .ok (.baload, 1) := by decide +kernel
theorem dX4_leastGrey_18 : decode cX4_leastGrey 18 = .ok (.ifCond .ne 25, 3) := by decide +kernel
theorem dX4_leastGrey_21 : decode cX4_leastGrey 21 = .ok (.iload_n 1, 1) := by decide +kernel
theorem dX4_leastGrey_22 : decode cX4_leastGrey 22 = .ok (.iconst (-1), 1) := by decide +kernel
theorem dX4_leastGrey_23 : decode cX4_leastGrey 23 = .ok (.if_icmp .eq 13, 3) := by decide +kernel
theorem dX4_leastGrey_26 : decode cX4_leastGrey 26 = .ok (.aload_n 0, 1) := by decide +kernel
theorem dX4_leastGrey_27 : decode cX4_leastGrey 27 = .ok (.getfield 18, 3) := by decide +kernel
theorem dX4_leastGrey_30 : decode cX4_leastGrey 30 = .ok (.iload_n 2, 1) := by decide +kernel
theorem dX4_leastGrey_31 : decode cX4_leastGrey 31 = .ok (.iaload, 1) := by decide +kernel
theorem dX4_leastGrey_32 : decode cX4_leastGrey 32 = .ok (.iload_n 1, 1) := by decide +kernel
theorem dX4_leastGrey_33 : decode cX4_leastGrey 33 = .ok (.if_icmp .ge 10, 3) := by decide +kernel
theorem dX4_leastGrey_36 : decode cX4_leastGrey 36 = .ok (.aload_n 0, 1) := by decide +kernel
theorem dX4_leastGrey_37 : decode cX4_leastGrey 37 = .ok (.getfield 18, 3) := by decide +kernel
theorem dX4_leastGrey_40 : decode cX4_leastGrey 40 = .ok (.iload_n 2, 1) := by decide +kernel
theorem dX4_leastGrey_41 : decode cX4_leastGrey 41 = .ok (.iaload, 1) := by decide +kernel
theorem dX4_leastGrey_42 : decode cX4_leastGrey 42 = .ok (.istore_n 1, 1) := by decide +kernel
theorem dX4_leastGrey_43 : decode cX4_leastGrey 43 = .ok (.iinc 2 1, 3) := by decide +kernel
theorem dX4_leastGrey_46 : decode cX4_leastGrey 46 = .ok (.goto (-42), 3) := by decide +kernel
theorem dX4_leastGrey_49 : decode cX4_leastGrey 49 = .ok (.iload_n 1, 1) := by decide +kernel
theorem dX4_leastGrey_50 : decode cX4_leastGrey 50 = .ok (.ireturn, 1) := by decide +kernel
theorem dX4_greatestGrey_0 : decode cX4_greatestGrey 0 = .ok (.iconst (-1), 1) := by decide +kernel
theorem dX4_greatestGrey_1 : decode cX4_greatestGrey 1 = .ok (.istore_n 1, 1) := by decide +kernel
theorem dX4_greatestGrey_2 : decode cX4_greatestGrey 2 = .ok (.iconst 0, 1) := by decide +kernel
theorem dX4_greatestGrey_3 : decode cX4_greatestGrey 3 = .ok (.istore_n 2, 1) := by decide +kernel
theorem dX4_greatestGrey_4 : decode cX4_greatestGrey 4 = .ok (.iload_n 2, 1) := by decide +kernel
theorem dX4_greatestGrey_5 : decode cX4_greatestGrey 5 = .ok (.aload_n 0, 1) := by decide +kernel
theorem dX4_greatestGrey_6 : decode cX4_greatestGrey 6 = .ok (.invokevirtual 38, 3) := by decide +kernel
theorem dX4_greatestGrey_9 : decode cX4_greatestGrey 9 = .ok (.if_icmp .ge 35, 3) := by decide +kernel
theorem dX4_greatestGrey_12 : decode cX4_greatestGrey 12 = .ok (.aload_n 0, 1) := by decide +kernel
theorem dX4_greatestGrey_13 : decode cX4_greatestGrey 13 = .ok (.getfield 22, 3) := by decide +kernel
theorem dX4_greatestGrey_16 : decode cX4_greatestGrey 16 = .ok (.iload_n 2, 1) := by decide +kernel
theorem dX4_greatestGrey_17 : decode cX4_greatestGrey 17 = .ok (.baload, 1) := by decide +kernel
theorem dX4_greatestGrey_18 : decode cX4_greatestGrey 18 = .ok (.ifCond .ne 20, 3) := by decide +kernel
theorem dX4_greatestGrey_21 : decode cX4_greatestGrey 21 = .ok (.aload_n 0, 1) := by decide +kernel
theorem dX4_greatestGrey_22 : decode cX4_greatestGrey 22 = .ok (.getfield 18, 3) := by decide +kernel
theorem dX4_greatestGrey_25 : decode cX4_greatestGrey 25 = .ok (.iload_n 2, 1) := by decide +kernel
theorem dX4_greatestGrey_26 : decode cX4_greatestGrey 26 = .ok (.iaload, 1) := by decide +kernel
theorem dX4_greatestGrey_27 : decode cX4_greatestGrey 27 = .ok (.iload_n 1, 1) := by decide +kernel
theorem dX4_greatestGrey_28 : decode cX4_greatestGrey 28 = .ok (.if_icmp .le 10, 3) := by decide +kernel
theorem dX4_greatestGrey_31 : decode cX4_greatestGrey 31 = .ok (.aload_n 0, 1) := by decide +kernel
theorem dX4_greatestGrey_32 : decode cX4_greatestGrey 32 = .ok (.getfield 18, 3) := by decide +kernel
theorem dX4_greatestGrey_35 : decode cX4_greatestGrey 35 = .ok (.iload_n 2, 1) := by decide +kernel
theorem dX4_greatestGrey_36 : decode cX4_greatestGrey 36 = .ok (.iaload, 1) := by decide +kernel
theorem dX4_greatestGrey_37 : decode cX4_greatestGrey 37 = .ok (.istore_n 1, 1) := by decide +kernel
theorem dX4_greatestGrey_38 : decode cX4_greatestGrey 38 = .ok (.iinc 2 1, 3) := by decide +kernel
theorem dX4_greatestGrey_41 : decode cX4_greatestGrey 41 = .ok (.goto (-37), 3) := by decide +kernel
theorem dX4_greatestGrey_44 : decode cX4_greatestGrey 44 = .ok (.iload_n 1, 1) := by decide +kernel
theorem dX4_greatestGrey_45 : decode cX4_greatestGrey 45 = .ok (.ireturn, 1) := by decide +kernel
theorem dX4_greysTogether_0 : decode cX4_greysTogether 0 = .ok (.iconst 0, 1) := by decide +kernel
theorem dX4_greysTogether_1 : decode cX4_greysTogether 1 = .ok (.istore_n 1, 1) := by decide +kernel
theorem dX4_greysTogether_2 : decode cX4_greysTogether 2 = .ok (.iconst 0, 1) := by decide +kernel
theorem dX4_greysTogether_3 : decode cX4_greysTogether 3 = .ok (.istore_n 2, 1) := by decide +kernel
theorem dX4_greysTogether_4 : decode cX4_greysTogether 4 = .ok (.iload_n 2, 1) := by decide +kernel
theorem dX4_greysTogether_5 : decode cX4_greysTogether 5 = .ok (.aload_n 0, 1) := by decide +kernel
theorem dX4_greysTogether_6 : decode cX4_greysTogether 6 = .ok (.invokevirtual 38, 3) := by decide +kernel
theorem dX4_greysTogether_9 : decode cX4_greysTogether 9 = .ok (.if_icmp .ge 27, 3) := by decide +kernel
theorem dX4_greysTogether_12 : decode cX4_greysTogether 12 = .ok (.aload_n 0, 1) := by decide +kernel
theorem dX4_greysTogether_13 : decode cX4_greysTogether 13 = .ok (.getfield 22, 3) := by decide +kernel
theorem dX4_greysTogether_16 : decode cX4_greysTogether 16 = .ok (.iload_n 2, 1) := by decide +kernel
theorem dX4_greysTogether_17 : decode cX4_greysTogether 17 = .ok (.baload, 1) := by decide +kernel
theorem dX4_greysTogether_18 : decode cX4_greysTogether 18 = .ok (.ifCond .ne 12, 3) := by decide +kernel
theorem dX4_greysTogether_21 : decode cX4_greysTogether 21 = .ok (.iload_n 1, 1) := by decide +kernel
theorem dX4_greysTogether_22 : decode cX4_greysTogether 22 = .ok (.aload_n 0, 1) := by decide +kernel
theorem dX4_greysTogether_23 : decode cX4_greysTogether 23 = .ok (.getfield 18, 3) := by decide +kernel
theorem dX4_greysTogether_26 : decode cX4_greysTogether 26 = .ok (.iload_n 2, 1) := by decide +kernel
theorem dX4_greysTogether_27 : decode cX4_greysTogether 27 = .ok (.iaload, 1) := by decide +kernel
theorem dX4_greysTogether_28 : decode cX4_greysTogether 28 = .ok (.iadd, 1) := by decide +kernel
theorem dX4_greysTogether_29 : decode cX4_greysTogether 29 = .ok (.istore_n 1, 1) := by decide +kernel
theorem dX4_greysTogether_30 : decode cX4_greysTogether 30 = .ok (.iinc 2 1, 3) := by decide +kernel
theorem dX4_greysTogether_33 : decode cX4_greysTogether 33 = .ok (.goto (-29), 3) := by decide +kernel
theorem dX4_greysTogether_36 : decode cX4_greysTogether 36 = .ok (.iload_n 1, 1) := by decide +kernel
theorem dX4_greysTogether_37 : decode cX4_greysTogether 37 = .ok (.ireturn, 1) := by decide +kernel
theorem dX4_dotsUpTo_0 : decode cX4_dotsUpTo 0 = .ok (.iconst 0, 1) := by decide +kernel
theorem dX4_dotsUpTo_1 : decode cX4_dotsUpTo 1 = .ok (.istore 6, 2) := by decide +kernel
theorem dX4_dotsUpTo_3 : decode cX4_dotsUpTo 3 = .ok (.iload_n 2, 1) := by decide +kernel
theorem dX4_dotsUpTo_4 : decode cX4_dotsUpTo 4 = .ok (.istore 7, 2) := by decide +kernel
theorem dX4_dotsUpTo_6 : decode cX4_dotsUpTo 6 = .ok (.iload 7, 2) := by decide +kernel
theorem dX4_dotsUpTo_8 : decode cX4_dotsUpTo 8 = .ok (.iload 4, 2) := by decide +kernel
theorem dX4_dotsUpTo_10 : decode cX4_dotsUpTo 10 = .ok (.if_icmp .gt 51, 3) := by decide +kernel
theorem dX4_dotsUpTo_13 : decode cX4_dotsUpTo 13 = .ok (.iload_n 1, 1) := by decide +kernel
theorem dX4_dotsUpTo_14 : decode cX4_dotsUpTo 14 = .ok (.istore 8, 2) := by decide +kernel
theorem dX4_dotsUpTo_16 : decode cX4_dotsUpTo 16 = .ok (.iload 8, 2) := by decide +kernel
theorem dX4_dotsUpTo_18 : decode cX4_dotsUpTo 18 = .ok (.iload_n 3, 1) := by decide +kernel
theorem dX4_dotsUpTo_19 : decode cX4_dotsUpTo 19 = .ok (.if_icmp .gt 36, 3) := by decide +kernel
theorem dX4_dotsUpTo_22 : decode cX4_dotsUpTo 22 = .ok (.aload_n 0, 1) := by decide +kernel
theorem dX4_dotsUpTo_23 : decode cX4_dotsUpTo 23 = .ok (.iload 8, 2) := by decide +kernel
theorem dX4_dotsUpTo_25 : decode cX4_dotsUpTo 25 = .ok (.iload 7, 2) := by decide +kernel
theorem dX4_dotsUpTo_27 : decode cX4_dotsUpTo 27 = .ok (.invokevirtual 50, 3) := by decide +kernel
theorem dX4_dotsUpTo_30 : decode cX4_dotsUpTo 30 = .ok (.ifCond .ne 19, 3) := by decide +kernel
theorem dX4_dotsUpTo_33 : decode cX4_dotsUpTo 33 = .ok (.aload_n 0, 1) := by decide +kernel
theorem dX4_dotsUpTo_34 : decode cX4_dotsUpTo 34 = .ok (.iload 8, 2) := by decide +kernel
theorem dX4_dotsUpTo_36 : decode cX4_dotsUpTo 36 = .ok (.iload 7, 2) := by decide +kernel
theorem dX4_dotsUpTo_38 : decode cX4_dotsUpTo 38 = .ok (.invokevirtual 42, 3) := by decide +kernel
theorem dX4_dotsUpTo_41 : decode cX4_dotsUpTo 41 = .ok (.iload 5, 2) := by decide +kernel
theorem dX4_dotsUpTo_43 : decode cX4_dotsUpTo 43 = .ok (.if_icmp .gt 6, 3) := by decide +kernel
theorem dX4_dotsUpTo_46 : decode cX4_dotsUpTo 46 = .ok (.iinc 6 1, 3) := by decide +kernel
theorem dX4_dotsUpTo_49 : decode cX4_dotsUpTo 49 = .ok (.iinc 8 1, 3) := by decide +kernel
theorem dX4_dotsUpTo_52 : decode cX4_dotsUpTo 52 = .ok (.goto (-36), 3) := by decide +kernel
theorem dX4_dotsUpTo_55 : decode cX4_dotsUpTo 55 = .ok (.iinc 7 1, 3) := by decide +kernel
theorem dX4_dotsUpTo_58 : decode cX4_dotsUpTo 58 = .ok (.goto (-52), 3) := by decide +kernel
theorem dX4_dotsUpTo_61 : decode cX4_dotsUpTo 61 = .ok (.iload 6, 2) := by decide +kernel
theorem dX4_dotsUpTo_63 : decode cX4_dotsUpTo 63 = .ok (.ireturn, 1) := by decide +kernel
theorem dX4_greysOtherThan_0 : decode cX4_greysOtherThan 0 = .ok (.iconst 0, 1) := by decide +kernel
theorem dX4_greysOtherThan_1 : decode cX4_greysOtherThan 1 = .ok (.istore_n 2, 1) := by decide +kernel
theorem dX4_greysOtherThan_2 : decode cX4_greysOtherThan 2 = .ok (.iconst 0, 1) := by decide +kernel
theorem dX4_greysOtherThan_3 : decode cX4_greysOtherThan 3 = .ok (.istore_n 3, 1) := by decide +kernel
theorem dX4_greysOtherThan_4 : decode cX4_greysOtherThan 4 = .ok (.iload_n 3, 1) := by decide +kernel
theorem dX4_greysOtherThan_5 : decode cX4_greysOtherThan 5 = .ok (.aload_n 0, 1) := by decide +kernel
theorem dX4_greysOtherThan_6 : decode cX4_greysOtherThan 6 = .ok (.invokevirtual 38, 3) := by decide +kernel
theorem dX4_greysOtherThan_9 : decode cX4_greysOtherThan 9 = .ok (.if_icmp .ge 27, 3) := by decide +kernel
theorem dX4_greysOtherThan_12 : decode cX4_greysOtherThan 12 = .ok (.aload_n 0, 1) := by decide +kernel
theorem dX4_greysOtherThan_13 : decode cX4_greysOtherThan 13 = .ok (.getfield 18, 3) := by decide +kernel
theorem dX4_greysOtherThan_16 : decode cX4_greysOtherThan 16 = .ok (.iload_n 3, 1) := by decide +kernel
theorem dX4_greysOtherThan_17 : decode cX4_greysOtherThan 17 = .ok (.iaload, 1) := by decide +kernel
theorem dX4_greysOtherThan_18 : decode cX4_greysOtherThan 18 = .ok (.aload_n 1, 1) := by decide +kernel
theorem dX4_greysOtherThan_19 : decode cX4_greysOtherThan 19 = .ok (.getfield 18, 3) := by decide +kernel
theorem dX4_greysOtherThan_22 : decode cX4_greysOtherThan 22 = .ok (.iload_n 3, 1) := by decide +kernel
theorem dX4_greysOtherThan_23 : decode cX4_greysOtherThan 23 = .ok (.iaload, 1) := by decide +kernel
theorem dX4_greysOtherThan_24 : decode cX4_greysOtherThan 24 = .ok (.if_icmp .eq 6, 3) := by decide +kernel
theorem dX4_greysOtherThan_27 : decode cX4_greysOtherThan 27 = .ok (.iinc 2 1, 3) := by decide +kernel
theorem dX4_greysOtherThan_30 : decode cX4_greysOtherThan 30 = .ok (.iinc 3 1, 3) := by decide +kernel
theorem dX4_greysOtherThan_33 : decode cX4_greysOtherThan 33 = .ok (.goto (-29), 3) := by decide +kernel
theorem dX4_greysOtherThan_36 : decode cX4_greysOtherThan 36 = .ok (.iload_n 2, 1) := by decide +kernel
theorem dX4_greysOtherThan_37 : decode cX4_greysOtherThan 37 = .ok (.ireturn, 1) := by decide +kernel
theorem dX4_dotsOtherThan_0 : decode cX4_dotsOtherThan 0 = .ok (.aload_n 0, 1) := by decide +kernel
theorem dX4_dotsOtherThan_1 : decode cX4_dotsOtherThan 1 = .ok (.getfield 9, 3) := by decide +kernel
theorem dX4_dotsOtherThan_4 : decode cX4_dotsOtherThan 4 = .ok (.aload_n 1, 1) := by decide +kernel
theorem dX4_dotsOtherThan_5 : decode cX4_dotsOtherThan 5 = .ok (.getfield 9, 3) := by decide +kernel
theorem dX4_dotsOtherThan_8 : decode cX4_dotsOtherThan 8 = .ok (.if_icmp .ne 14, 3) := by decide +kernel
theorem dX4_dotsOtherThan_11 : decode cX4_dotsOtherThan 11 = .ok (.aload_n 0, 1) := by decide +kernel
theorem dX4_dotsOtherThan_12 : decode cX4_dotsOtherThan 12 = .ok (.getfield 15, 3) := by decide +kernel
theorem dX4_dotsOtherThan_15 : decode cX4_dotsOtherThan 15 = .ok (.aload_n 1, 1) := by decide +kernel
theorem dX4_dotsOtherThan_16 : decode cX4_dotsOtherThan 16 = .ok (.getfield 15, 3) := by decide +kernel
theorem dX4_dotsOtherThan_19 : decode cX4_dotsOtherThan 19 = .ok (.if_icmp .eq 5, 3) := by decide +kernel
theorem dX4_dotsOtherThan_22 : decode cX4_dotsOtherThan 22 = .ok (.iconst (-1), 1) := by decide +kernel
theorem dX4_dotsOtherThan_23 : decode cX4_dotsOtherThan 23 = .ok (.ireturn, 1) := by decide +kernel
theorem dX4_dotsOtherThan_24 : decode cX4_dotsOtherThan 24 = .ok (.iconst 0, 1) := by decide +kernel
theorem dX4_dotsOtherThan_25 : decode cX4_dotsOtherThan 25 = .ok (.istore_n 2, 1) := by decide +kernel
theorem dX4_dotsOtherThan_26 : decode cX4_dotsOtherThan 26 = .ok (.iconst 0, 1) := by decide +kernel
theorem dX4_dotsOtherThan_27 : decode cX4_dotsOtherThan 27 = .ok (.istore_n 3, 1) := by decide +kernel
theorem dX4_dotsOtherThan_28 : decode cX4_dotsOtherThan 28 = .ok (.iload_n 3, 1) := by decide +kernel
theorem dX4_dotsOtherThan_29 : decode cX4_dotsOtherThan 29 = .ok (.aload_n 0, 1) := by decide +kernel
theorem dX4_dotsOtherThan_30 : decode cX4_dotsOtherThan 30 = .ok (.invokevirtual 38, 3) := by decide +kernel
theorem dX4_dotsOtherThan_33 : decode cX4_dotsOtherThan 33 = .ok (.if_icmp .ge 42, 3) := by decide +kernel
theorem dX4_dotsOtherThan_36 : decode cX4_dotsOtherThan 36 = .ok (.aload_n 0, 1) := by decide +kernel
theorem dX4_dotsOtherThan_37 : decode cX4_dotsOtherThan 37 = .ok (.getfield 18, 3) := by decide +kernel
theorem dX4_dotsOtherThan_40 : decode cX4_dotsOtherThan 40 = .ok (.iload_n 3, 1) := by decide +kernel
theorem dX4_dotsOtherThan_41 : decode cX4_dotsOtherThan 41 = .ok (.iaload, 1) := by decide +kernel
theorem dX4_dotsOtherThan_42 : decode cX4_dotsOtherThan 42 = .ok (.aload_n 1, 1) := by decide +kernel
theorem dX4_dotsOtherThan_43 : decode cX4_dotsOtherThan 43 = .ok (.getfield 18, 3) := by decide +kernel
theorem dX4_dotsOtherThan_46 : decode cX4_dotsOtherThan 46 = .ok (.iload_n 3, 1) := by decide +kernel
theorem dX4_dotsOtherThan_47 : decode cX4_dotsOtherThan 47 = .ok (.iaload, 1) := by decide +kernel
theorem dX4_dotsOtherThan_48 : decode cX4_dotsOtherThan 48 = .ok (.if_icmp .ne 18, 3) := by decide +kernel
theorem dX4_dotsOtherThan_51 : decode cX4_dotsOtherThan 51 = .ok (.aload_n 0, 1) := by decide +kernel
theorem dX4_dotsOtherThan_52 : decode cX4_dotsOtherThan 52 = .ok (.getfield 22, 3) := by decide +kernel
theorem dX4_dotsOtherThan_55 : decode cX4_dotsOtherThan 55 = .ok (.iload_n 3, 1) := by decide +kernel
theorem dX4_dotsOtherThan_56 : decode cX4_dotsOtherThan 56 = .ok (.baload, 1) := by decide +kernel
theorem dX4_dotsOtherThan_57 : decode cX4_dotsOtherThan 57 = .ok (.aload_n 1, 1) := by decide +kernel
theorem dX4_dotsOtherThan_58 : decode cX4_dotsOtherThan 58 = .ok (.getfield 22, 3) := by decide +kernel
theorem dX4_dotsOtherThan_61 : decode cX4_dotsOtherThan 61 = .ok (.iload_n 3, 1) := by decide +kernel
theorem dX4_dotsOtherThan_62 : decode cX4_dotsOtherThan 62 = .ok (.baload, 1) := by decide +kernel
theorem dX4_dotsOtherThan_63 : decode cX4_dotsOtherThan 63 = .ok (.if_icmp .eq 6, 3) := by decide +kernel
theorem dX4_dotsOtherThan_66 : decode cX4_dotsOtherThan 66 = .ok (.iinc 2 1, 3) := by decide +kernel
theorem dX4_dotsOtherThan_69 : decode cX4_dotsOtherThan 69 = .ok (.iinc 3 1, 3) := by decide +kernel
theorem dX4_dotsOtherThan_72 : decode cX4_dotsOtherThan 72 = .ok (.goto (-44), 3) := by decide +kernel
theorem dX4_dotsOtherThan_75 : decode cX4_dotsOtherThan 75 = .ok (.iload_n 2, 1) := by decide +kernel
theorem dX4_dotsOtherThan_76 : decode cX4_dotsOtherThan 76 = .ok (.ireturn, 1) := by decide +kernel
theorem dX5_init_0 : decode cX5_init 0 = .ok (.aload_n 0, 1) := by decide +kernel
theorem dX5_init_1 : decode cX5_init 1 = .ok (.invokespecial 3, 3) := by decide +kernel
theorem dX5_init_4 : decode cX5_init 4 = .ok (.aload_n 0, 1) := by decide +kernel
theorem dX5_init_5 : decode cX5_init 5 = .ok (.iconst 0, 1) := by decide +kernel
theorem dX5_init_6 : decode cX5_init 6 = .ok (.putfield 9, 3) := by decide +kernel
theorem dX5_init_9 : decode cX5_init 9 = .ok (.aload_n 0, 1) := by decide +kernel
theorem dX5_init_10 : decode cX5_init 10 = .ok (.bipush 10, 2) := by decide +kernel
theorem dX5_init_12 : decode cX5_init 12 = .ok (.putfield 15, 3) := by decide +kernel
theorem dX5_init_15 : decode cX5_init 15 = .ok (.aload_n 0, 1) := by decide +kernel
theorem dX5_init_16 : decode cX5_init 16 = .ok (.iconst 0, 1) := by decide +kernel
theorem dX5_init_17 : decode cX5_init 17 = .ok (.putfield 18, 3) := by decide +kernel
theorem dX5_init_20 : decode cX5_init 20 = .ok (.aload_n 0, 1) := by decide +kernel
theorem dX5_init_21 : decode cX5_init 21 = .ok (.iconst 0, 1) := by decide +kernel
theorem dX5_init_22 : decode cX5_init 22 = .ok (.putfield 21, 3) := by decide +kernel
theorem dX5_init_25 : decode cX5_init 25 = .ok (.aload_n 0, 1) := by decide +kernel
theorem dX5_init_26 : decode cX5_init 26 = .ok (.iconst (-1), 1) := by decide +kernel
theorem dX5_init_27 : decode cX5_init 27 = .ok (.putfield 24, 3) := by decide +kernel
theorem dX5_init_30 : decode cX5_init 30 = .ok (.aload_n 0, 1) := by decide +kernel
theorem dX5_init_31 : decode cX5_init 31 = .ok (.aload_n 1, 1) := by decide +kernel
theorem dX5_init_32 : decode cX5_init 32 = .ok (.putfield 27, 3) := by decide +kernel
theorem dX5_init_35 : decode cX5_init 35 = .ok (.return_, 1) := by decide +kernel
theorem dX5_take_0 : decode cX5_take 0 = .ok (.iload_n 1, 1) := by decide +kernel
theorem dX5_take_1 : decode cX5_take 1 = .ok (.bipush 47, 2) := by decide +kernel
theorem dX5_take_3 : decode cX5_take 3 = .ok (.if_icmp .ne 9, 3) := by decide +kernel
theorem dX5_take_6 : decode cX5_take 6 = .ok (.aload_n 0, 1) := by decide +kernel
theorem dX5_take_7 : decode cX5_take 7 = .ok (.iconst 0, 1) := by decide +kernel
theorem dX5_take_8 : decode cX5_take 8 = .ok (.invokevirtual 31, 3) := by decide +kernel
theorem dX5_take_11 : decode cX5_take 11 = .ok (.ireturn, 1) := by decide +kernel
theorem dX5_take_12 : decode cX5_take 12 = .ok (.iload_n 1, 1) := by decide +kernel
theorem dX5_take_13 : decode cX5_take 13 = .ok (.invokestatic 35, 3) := by decide +kernel
theorem dX5_take_16 : decode cX5_take 16 = .ok (.istore_n 2, 1) := by decide +kernel
theorem dX5_take_17 : decode cX5_take 17 = .ok (.iload_n 2, 1) := by decide +kernel
theorem dX5_take_18 : decode cX5_take 18 = .ok (.iconst (-1), 1) := by decide +kernel
theorem dX5_take_19 : decode cX5_take 19 = .ok (.if_icmp .ne 5, 3) := by decide +kernel
theorem dX5_take_22 : decode cX5_take 22 = .ok (.iconst 1, 1) := by decide +kernel
theorem dX5_take_23 : decode cX5_take 23 = .ok (.ireturn, 1) := by decide +kernel
theorem dX5_take_24 : decode cX5_take 24 = .ok (.aload_n 0, 1) := by decide +kernel
theorem dX5_take_25 : decode cX5_take 25 = .ok (.getfield 24, 3) := by decide +kernel
theorem dX5_take_28 : decode cX5_take 28 = .ok (.iconst (-1), 1) := by decide +kernel
theorem dX5_take_29 : decode cX5_take 29 = .ok (.if_icmp .ne 11, 3) := by decide +kernel
theorem dX5_take_32 : decode cX5_take 32 = .ok (.aload_n 0, 1) := by decide +kernel
theorem dX5_take_33 : decode cX5_take 33 = .ok (.iload_n 2, 1) := by decide +kernel
theorem dX5_take_34 : decode cX5_take 34 = .ok (.invokevirtual 39, 3) := by decide +kernel
theorem dX5_take_37 : decode cX5_take 37 = .ok (.goto 8, 3) := by decide +kernel
theorem dX5_take_40 : decode cX5_take 40 = .ok (.aload_n 0, 1) := by decide +kernel
theorem dX5_take_41 : decode cX5_take 41 = .ok (.iload_n 2, 1) := by decide +kernel
theorem dX5_take_42 : decode cX5_take 42 = .ok (.invokevirtual 42, 3) := by decide +kernel
theorem dX5_take_45 : decode cX5_take 45 = .ok (.ireturn, 1) := by decide +kernel
theorem dX5_takeRowEnd_0 : decode cX5_takeRowEnd 0 = .ok (.aload_n 0, 1) := by decide +kernel
theorem dX5_takeRowEnd_1 : decode cX5_takeRowEnd 1 = .ok (.getfield 24, 3) := by decide +kernel
theorem dX5_takeRowEnd_4 : decode cX5_takeRowEnd 4 = .ok (.iconst (-1), 1) := by decide +kernel
theorem dX5_takeRowEnd_5 : decode cX5_takeRowEnd 5 = .ok (.if_icmp .ne 10, 3) := by decide +kernel
theorem dX5_takeRowEnd_8 : decode cX5_takeRowEnd 8 = .ok (.aload_n 0, 1) := by decide +kernel
theorem dX5_takeRowEnd_9 : decode cX5_takeRowEnd 9 = .ok (.getfield 21, 3) := by decide +kernel
theorem dX5_takeRowEnd_12 : decode cX5_takeRowEnd 12 = .ok (.ifCond .ne 5, 3) := by decide +kernel
theorem dX5_takeRowEnd_15 : decode cX5_takeRowEnd 15 = .ok (.iconst 1, 1) := by decide +kernel
theorem dX5_takeRowEnd_16 : decode cX5_takeRowEnd 16 = .ok (.ireturn, 1) := by decide +kernel
theorem dX5_takeRowEnd_17 : decode cX5_takeRowEnd 17 = .ok (.aload_n 0, 1) := by decide +kernel
theorem dX5_takeRowEnd_18 : decode cX5_takeRowEnd 18 = .ok (.getfield 18, 3) := by decide +kernel
theorem dX5_takeRowEnd_21 : decode cX5_takeRowEnd 21 = .ok (.ifCond .ne 11, 3) := by decide +kernel
theorem dX5_takeRowEnd_24 : decode cX5_takeRowEnd 24 = .ok (.aload_n 0, 1) := by decide +kernel
theorem dX5_takeRowEnd_25 : decode cX5_takeRowEnd 25 = .ok (.aload_n 0, 1) := by decide +kernel
theorem dX5_takeRowEnd_26 : decode cX5_takeRowEnd 26 = .ok (.getfield 21, 3) := by decide +kernel
theorem dX5_takeRowEnd_29 : decode cX5_takeRowEnd 29 = .ok (.putfield 15, 3) := by decide +kernel
theorem dX5_takeRowEnd_32 : decode cX5_takeRowEnd 32 = .ok (.aload_n 0, 1) := by decide +kernel
theorem dX5_takeRowEnd_33 : decode cX5_takeRowEnd 33 = .ok (.getfield 21, 3) := by decide +kernel
theorem dX5_takeRowEnd_36 : decode cX5_takeRowEnd 36 = .ok (.aload_n 0, 1) := by decide +kernel
theorem dX5_takeRowEnd_37 : decode cX5_takeRowEnd 37 = .ok (.getfield 15, 3) := by decide +kernel
theorem dX5_takeRowEnd_40 : decode cX5_takeRowEnd 40 = .ok (.if_icmp .ge 5, 3) := by decide +kernel
theorem dX5_takeRowEnd_43 : decode cX5_takeRowEnd 43 = .ok (.iconst 2, 1) := by decide +kernel
theorem dX5_takeRowEnd_44 : decode cX5_takeRowEnd 44 = .ok (.ireturn, 1) := by decide +kernel
theorem dX5_takeRowEnd_45 : decode cX5_takeRowEnd 45 = .ok (.aload_n 0, 1) := by decide +kernel
theorem dX5_takeRowEnd_46 : decode cX5_takeRowEnd 46 = .ok (.dup, 1) := by decide +kernel
theorem dX5_takeRowEnd_47 : decode cX5_takeRowEnd 47 = .ok (.getfield 18, 3) := by decide +kernel
theorem dX5_takeRowEnd_50 : decode cX5_takeRowEnd 50 = .ok (.iconst 1, 1) := by decide +kernel
theorem dX5_takeRowEnd_51 : decode cX5_takeRowEnd 51 = .ok (.iadd, 1) := by decide +kernel
theorem dX5_takeRowEnd_52 : decode cX5_takeRowEnd 52 = .ok (.putfield 18, 3) := by decide +kernel
theorem dX5_takeRowEnd_55 : decode cX5_takeRowEnd 55 = .ok (.aload_n 0, 1) := by decide +kernel
theorem dX5_takeRowEnd_56 : decode cX5_takeRowEnd 56 = .ok (.iconst 0, 1) := by decide +kernel
theorem dX5_takeRowEnd_57 : decode cX5_takeRowEnd 57 = .ok (.putfield 21, 3) := by decide +kernel
theorem dX5_takeRowEnd_60 : decode cX5_takeRowEnd 60 = .ok (.iload_n 1, 1) := by decide +kernel
theorem dX5_takeRowEnd_61 : decode cX5_takeRowEnd 61 = .ok (.ifCond .eq 20, 3) := by decide +kernel
theorem dX5_takeRowEnd_64 : decode cX5_takeRowEnd 64 = .ok (.aload_n 0, 1) := by decide +kernel
theorem dX5_takeRowEnd_65 : decode cX5_takeRowEnd 65 = .ok (.getfield 27, 3) := by decide +kernel
theorem dX5_takeRowEnd_68 : decode cX5_takeRowEnd 68 = .ok (.aload_n 0, 1) := by decide +kernel
theorem dX5_takeRowEnd_69 : decode cX5_takeRowEnd 69 = .ok (.getfield 15, 3) := by decide +kernel
theorem dX5_takeRowEnd_72 : decode cX5_takeRowEnd 72 = .ok (.aload_n 0, 1) := by decide +kernel
theorem dX5_takeRowEnd_73 : decode cX5_takeRowEnd 73 = .ok (.getfield 18, 3) := by decide +kernel
theorem dX5_takeRowEnd_76 : decode cX5_takeRowEnd 76 = .ok (.invokevirtual 45, 3) := by decide +kernel
theorem dX5_takeRowEnd_79 : decode cX5_takeRowEnd 79 = .ok (.iconst 0, 1) := by decide +kernel
theorem dX5_takeRowEnd_80 : decode cX5_takeRowEnd 80 = .ok (.ireturn, 1) := by decide +kernel
theorem dX5_takeRowEnd_81 : decode cX5_takeRowEnd 81 = .ok (.aload_n 0, 1) := by decide +kernel
theorem dX5_takeRowEnd_82 : decode cX5_takeRowEnd 82 = .ok (.getfield 18, 3) := by decide +kernel
theorem dX5_takeRowEnd_85 : decode cX5_takeRowEnd 85 = .ok (.bipush 8, 2) := by decide +kernel
theorem dX5_takeRowEnd_87 : decode cX5_takeRowEnd 87 = .ok (.if_icmp .ge 7, 3) := by decide +kernel
theorem dX5_takeRowEnd_90 : decode cX5_takeRowEnd 90 = .ok (.iconst 0, 1) := by decide +kernel
theorem dX5_takeRowEnd_91 : decode cX5_takeRowEnd 91 = .ok (.goto 4, 3) := by decide +kernel
theorem dX5_takeRowEnd_94 : decode cX5_takeRowEnd 94 = .ok (.iconst 3, 1) := by decide +kernel
theorem dX5_takeRowEnd_95 : decode cX5_takeRowEnd 95 = .ok (.ireturn, 1) := by decide +kernel
theorem dX5_takeFirstSign_0 : decode cX5_takeFirstSign 0 = .ok (.aload_n 0, 1) := by decide +kernel
theorem dX5_takeFirstSign_1 : decode cX5_takeFirstSign 1 = .ok (.getfield 21, 3) := by decide +kernel
theorem dX5_takeFirstSign_4 : decode cX5_takeFirstSign 4 = .ok (.aload_n 0, 1) := by decide +kernel
theorem dX5_takeFirstSign_5 : decode cX5_takeFirstSign 5 = .ok (.getfield 15, 3) := by decide +kernel
theorem dX5_takeFirstSign_8 : decode cX5_takeFirstSign 8 = .ok (.if_icmp .lt 5, 3) := by decide +kernel
theorem dX5_takeFirstSign_11 : decode cX5_takeFirstSign 11 = .ok (.iconst 2, 1) := by decide +kernel
theorem dX5_takeFirstSign_12 : decode cX5_takeFirstSign 12 = .ok (.ireturn, 1) := by decide +kernel
theorem dX5_takeFirstSign_13 : decode cX5_takeFirstSign 13 = .ok (.aload_n 0, 1) := by decide +kernel
theorem dX5_takeFirstSign_14 : decode cX5_takeFirstSign 14 = .ok (.iload_n 1, 1) := by decide +kernel
theorem dX5_takeFirstSign_15 : decode cX5_takeFirstSign 15 = .ok (.putfield 24, 3) := by decide +kernel
theorem dX5_takeFirstSign_18 : decode cX5_takeFirstSign 18 = .ok (.iconst 0, 1) := by decide +kernel
theorem dX5_takeFirstSign_19 : decode cX5_takeFirstSign 19 = .ok (.ireturn, 1) := by decide +kernel
theorem dX5_takeSecondSign_0 : decode cX5_takeSecondSign 0 = .ok (.aload_n 0, 1) := by decide +kernel
theorem dX5_takeSecondSign_1 : decode cX5_takeSecondSign 1 = .ok (.getfield 24, 3) := by decide +kernel
theorem dX5_takeSecondSign_4 : decode cX5_takeSecondSign 4 = .ok (.bipush 16, 2) := by decide +kernel
theorem dX5_takeSecondSign_6 : decode cX5_takeSecondSign 6 = .ok (.if_icmp .ne 7, 3) := by decide +kernel
theorem dX5_takeSecondSign_9 : decode cX5_takeSecondSign 9 = .ok (.iconst 1, 1) := by decide +kernel
theorem dX5_takeSecondSign_10 : decode cX5_takeSecondSign 10 = .ok (.goto 4, 3) := by decide +kernel
theorem dX5_takeSecondSign_13 : decode cX5_takeSecondSign 13 = .ok (.iconst 0, 1) := by decide +kernel
theorem dX5_takeSecondSign_14 : decode cX5_takeSecondSign 14 = .ok (.istore_n 2, 1) := by decide +kernel
theorem dX5_takeSecondSign_15 : decode cX5_takeSecondSign 15 = .ok (.iload_n 2, 1) := by decide +kernel
theorem dX5_takeSecondSign_16 : decode cX5_takeSecondSign 16 = .ok (.iload_n 1, 1) := by decide +kernel
theorem dX5_takeSecondSign_17 : decode cX5_takeSecondSign 17 = .ok (.bipush 16, 2) := by decide +kernel
theorem dX5_takeSecondSign_19 : decode cX5_takeSecondSign 19 = .ok (.if_icmp .ne 7, 3) := by decide +kernel
theorem dX5_takeSecondSign_22 : decode cX5_takeSecondSign 22 = .ok (.iconst 1, 1) := by decide +kernel
theorem dX5_takeSecondSign_23 : decode cX5_takeSecondSign 23 = .ok (.goto 4, 3) := by decide +kernel
theorem dX5_takeSecondSign_26 : decode cX5_takeSecondSign 26 = .ok (.iconst 0, 1) := by decide +kernel
theorem dX5_takeSecondSign_27 : decode cX5_takeSecondSign 27 = .ok (.if_icmp .eq 5, 3) := by decide +kernel
theorem dX5_takeSecondSign_30 : decode cX5_takeSecondSign 30 = .ok (.iconst 1, 1) := by decide +kernel
theorem dX5_takeSecondSign_31 : decode cX5_takeSecondSign 31 = .ok (.ireturn, 1) := by decide +kernel
theorem dX5_takeSecondSign_32 : decode cX5_takeSecondSign 32 = .ok (.aload_n 0, 1) := by decide +kernel
theorem dX5_takeSecondSign_33 : decode cX5_takeSecondSign 33 = .ok (.getfield 27, 3) := by decide +kernel
theorem dX5_takeSecondSign_36 : decode cX5_takeSecondSign 36 = .ok (.aload_n 0, 1) := by decide +kernel
theorem dX5_takeSecondSign_37 : decode cX5_takeSecondSign 37 = .ok (.getfield 9, 3) := by decide +kernel
theorem dX5_takeSecondSign_40 : decode cX5_takeSecondSign 40 = .ok (.iload_n 2, 1) := by decide +kernel
theorem dX5_takeSecondSign_41 : decode cX5_takeSecondSign 41 = .ok (.ifCond .eq 7, 3) := by decide +kernel
theorem dX5_takeSecondSign_44 : decode cX5_takeSecondSign 44 = .ok (.iconst 0, 1) := by decide +kernel
theorem dX5_takeSecondSign_45 : decode cX5_takeSecondSign 45 = .ok (.goto 12, 3) := by decide +kernel
theorem dX5_takeSecondSign_48 : decode cX5_takeSecondSign 48 = .ok (.aload_n 0, 1) := by decide +kernel
theorem dX5_takeSecondSign_49 : decode cX5_takeSecondSign 49 = .ok (.getfield 24, 3) := by decide +kernel
theorem dX5_takeSecondSign_52 : decode cX5_takeSecondSign 52 = .ok (.bipush 16, 2) := by decide +kernel
theorem dX5_takeSecondSign_54 : decode cX5_takeSecondSign 54 = .ok (.imul, 1) := by decide +kernel
theorem dX5_takeSecondSign_55 : decode cX5_takeSecondSign 55 = .ok (.iload_n 1, 1) := by decide +kernel
theorem dX5_takeSecondSign_56 : decode cX5_takeSecondSign 56 = .ok (.iadd, 1) := by decide +kernel
theorem dX5_takeSecondSign_57 : decode cX5_takeSecondSign 57 = .ok (.iload_n 2, 1) := by decide +kernel
theorem dX5_takeSecondSign_58 : decode cX5_takeSecondSign 58 = .ok (.invokevirtual 51, 3) := by decide +kernel
theorem dX5_takeSecondSign_61 : decode cX5_takeSecondSign 61 = .ok (.aload_n 0, 1) := by decide +kernel
theorem dX5_takeSecondSign_62 : decode cX5_takeSecondSign 62 = .ok (.dup, 1) := by decide +kernel
theorem dX5_takeSecondSign_63 : decode cX5_takeSecondSign 63 = .ok (.getfield 9, 3) := by decide +kernel
theorem dX5_takeSecondSign_66 : decode cX5_takeSecondSign 66 = .ok (.iconst 1, 1) := by decide +kernel
theorem dX5_takeSecondSign_67 : decode cX5_takeSecondSign 67 = .ok (.iadd, 1) := by decide +kernel
theorem dX5_takeSecondSign_68 : decode cX5_takeSecondSign 68 = .ok (.putfield 9, 3) := by decide +kernel
theorem dX5_takeSecondSign_71 : decode cX5_takeSecondSign 71 = .ok (.aload_n 0, 1) := by decide +kernel
theorem dX5_takeSecondSign_72 : decode cX5_takeSecondSign 72 = .ok (.dup, 1) := by decide +kernel
theorem dX5_takeSecondSign_73 : decode cX5_takeSecondSign 73 = .ok (.getfield 21, 3) := by decide +kernel
theorem dX5_takeSecondSign_76 : decode cX5_takeSecondSign 76 = .ok (.iconst 1, 1) := by decide +kernel
theorem dX5_takeSecondSign_77 : decode cX5_takeSecondSign 77 = .ok (.iadd, 1) := by decide +kernel
theorem dX5_takeSecondSign_78 : decode cX5_takeSecondSign 78 = .ok (.putfield 21, 3) := by decide +kernel
theorem dX5_takeSecondSign_81 : decode cX5_takeSecondSign 81 = .ok (.aload_n 0, 1) := by decide +kernel
theorem dX5_takeSecondSign_82 : decode cX5_takeSecondSign 82 = .ok (.iconst (-1), 1) := by decide +kernel
theorem dX5_takeSecondSign_83 : decode cX5_takeSecondSign 83 = .ok (.putfield 24, 3) := by decide +kernel
theorem dX5_takeSecondSign_86 : decode cX5_takeSecondSign 86 = .ok (.iconst 0, 1) := by decide +kernel
theorem dX5_takeSecondSign_87 : decode cX5_takeSecondSign 87 = .ok (.ireturn, 1) := by decide +kernel
theorem dX5_signOf_0 : decode cX5_signOf 0 = .ok (.iload_n 0, 1) := by decide +kernel
theorem dX5_signOf_1 : decode cX5_signOf 1 = .ok (.bipush 48, 2) := by decide +kernel
theorem dX5_signOf_3 : decode cX5_signOf 3 = .ok (.bipush 57, 2) := by decide +kernel
theorem dX5_signOf_5 : decode cX5_signOf 5 = .ok (.invokestatic 55, 3) := by decide +kernel
theorem dX5_signOf_8 : decode cX5_signOf 8 = .ok (.ifCond .eq 8, 3) := by decide +kernel
theorem dX5_signOf_11 : decode cX5_signOf 11 = .ok (.iload_n 0, 1) := by decide +kernel
theorem dX5_signOf_12 : decode cX5_signOf 12 = .ok (.bipush 48, 2) := by decide +kernel
theorem dX5_signOf_14 : decode cX5_signOf 14 = .ok (.isub, 1) := by decide +kernel
theorem dX5_signOf_15 : decode cX5_signOf 15 = .ok (.ireturn, 1) := by decide +kernel
theorem dX5_signOf_16 : decode cX5_signOf 16 = .ok (.iload_n 0, 1) := by decide +kernel
theorem dX5_signOf_17 : decode cX5_signOf 17 = .ok (.bipush 97, 2) := by decide +kernel
theorem dX5_signOf_19 : decode cX5_signOf 19 = .ok (.bipush 102, 2) := by decide +kernel
theorem dX5_signOf_21 : decode cX5_signOf 21 = .ok (.invokestatic 55, 3) := by decide +kernel
theorem dX5_signOf_24 : decode cX5_signOf 24 = .ok (.ifCond .eq 11, 3) := by decide +kernel
theorem dX5_signOf_27 : decode cX5_signOf 27 = .ok (.iload_n 0, 1) := by decide +kernel
theorem dX5_signOf_28 : decode cX5_signOf 28 = .ok (.bipush 97, 2) := by decide +kernel
theorem dX5_signOf_30 : decode cX5_signOf 30 = .ok (.isub, 1) := by decide +kernel
theorem dX5_signOf_31 : decode cX5_signOf 31 = .ok (.bipush 10, 2) := by decide +kernel
theorem dX5_signOf_33 : decode cX5_signOf 33 = .ok (.iadd, 1) := by decide +kernel
theorem dX5_signOf_34 : decode cX5_signOf 34 = .ok (.ireturn, 1) := by decide +kernel
theorem dX5_signOf_35 : decode cX5_signOf 35 = .ok (.iload_n 0, 1) := by decide +kernel
theorem dX5_signOf_36 : decode cX5_signOf 36 = .ok (.bipush 45, 2) := by decide +kernel
theorem dX5_signOf_38 : decode cX5_signOf 38 = .ok (.if_icmp .ne 8, 3) := by decide +kernel
theorem dX5_signOf_41 : decode cX5_signOf 41 = .ok (.bipush 16, 2) := by decide +kernel
theorem dX5_signOf_43 : decode cX5_signOf 43 = .ok (.goto 4, 3) := by decide +kernel
theorem dX5_signOf_46 : decode cX5_signOf 46 = .ok (.iconst (-1), 1) := by decide +kernel
theorem dX5_signOf_47 : decode cX5_signOf 47 = .ok (.ireturn, 1) := by decide +kernel
theorem dX6_init_0 : decode cX6_init 0 = .ok (.aload_n 0, 1) := by decide +kernel
theorem dX6_init_1 : decode cX6_init 1 = .ok (.invokespecial 3, 3) := by decide +kernel
theorem dX6_init_4 : decode cX6_init 4 = .ok (.aload_n 0, 1) := by decide +kernel
theorem dX6_init_5 : decode cX6_init 5 = .ok (.new 9, 3) := by decide +kernel
theorem dX6_init_8 : decode cX6_init 8 = .ok (.dup, 1) := by decide +kernel
theorem dX6_init_9 : decode cX6_init 9 = .ok (.invokespecial 11, 3) := by decide +kernel
theorem dX6_init_12 : decode cX6_init 12 = .ok (.putfield 12, 3) := by decide +kernel
theorem dX6_init_15 : decode cX6_init 15 = .ok (.aload_n 0, 1) := by decide +kernel
theorem dX6_init_16 : decode cX6_init 16 = .ok (.new 18, 3) := by decide +kernel
theorem dX6_init_19 : decode cX6_init 19 = .ok (.dup, 1) := by decide +kernel
theorem dX6_init_20 : decode cX6_init 20 = .ok (.invokespecial 20, 3) := by decide +kernel
theorem dX6_init_23 : decode cX6_init 23 = .ok (.putfield 21, 3) := by decide +kernel
theorem dX6_init_26 : decode cX6_init 26 = .ok (.aload_n 0, 1) := by decide +kernel
theorem dX6_init_27 : decode cX6_init 27 = .ok (.iconst 0, 1) := by decide +kernel
theorem dX6_init_28 : decode cX6_init 28 = .ok (.putfield 25, 3) := by decide +kernel
theorem dX6_init_31 : decode cX6_init 31 = .ok (.aload_n 0, 1) := by decide +kernel
theorem dX6_init_32 : decode cX6_init 32 = .ok (.iconst 0, 1) := by decide +kernel
theorem dX6_init_33 : decode cX6_init 33 = .ok (.putfield 29, 3) := by decide +kernel
theorem dX6_init_36 : decode cX6_init 36 = .ok (.return_, 1) := by decide +kernel
theorem dX6_become_0 : decode cX6_become 0 = .ok (.aload_n 0, 1) := by decide +kernel
theorem dX6_become_1 : decode cX6_become 1 = .ok (.getfield 12, 3) := by decide +kernel
theorem dX6_become_4 : decode cX6_become 4 = .ok (.aload_n 1, 1) := by decide +kernel
theorem dX6_become_5 : decode cX6_become 5 = .ok (.getfield 12, 3) := by decide +kernel
theorem dX6_become_8 : decode cX6_become 8 = .ok (.invokevirtual 32, 3) := by decide +kernel
theorem dX6_become_11 : decode cX6_become 11 = .ok (.aload_n 0, 1) := by decide +kernel
theorem dX6_become_12 : decode cX6_become 12 = .ok (.getfield 21, 3) := by decide +kernel
theorem dX6_become_15 : decode cX6_become 15 = .ok (.aload_n 1, 1) := by decide +kernel
theorem dX6_become_16 : decode cX6_become 16 = .ok (.getfield 21, 3) := by decide +kernel
theorem dX6_become_19 : decode cX6_become 19 = .ok (.invokevirtual 36, 3) := by decide +kernel
theorem dX6_become_22 : decode cX6_become 22 = .ok (.aload_n 0, 1) := by decide +kernel
theorem dX6_become_23 : decode cX6_become 23 = .ok (.aload_n 1, 1) := by decide +kernel
theorem dX6_become_24 : decode cX6_become 24 = .ok (.getfield 25, 3) := by decide +kernel
theorem dX6_become_27 : decode cX6_become 27 = .ok (.putfield 25, 3) := by decide +kernel
theorem dX6_become_30 : decode cX6_become 30 = .ok (.aload_n 0, 1) := by decide +kernel
theorem dX6_become_31 : decode cX6_become 31 = .ok (.aload_n 1, 1) := by decide +kernel
theorem dX6_become_32 : decode cX6_become 32 = .ok (.getfield 29, 3) := by decide +kernel
theorem dX6_become_35 : decode cX6_become 35 = .ok (.putfield 29, 3) := by decide +kernel
theorem dX6_become_38 : decode cX6_become 38 = .ok (.return_, 1) := by decide +kernel
theorem dX6_speckle_0 : decode cX6_speckle 0 = .ok (.aload_n 0, 1) := by decide +kernel
theorem dX6_speckle_1 : decode cX6_speckle 1 = .ok (.aload_n 0, 1) := by decide +kernel
theorem dX6_speckle_2 : decode cX6_speckle 2 = .ok (.getfield 12, 3) := by decide +kernel
theorem dX6_speckle_5 : decode cX6_speckle 5 = .ok (.getfield 39, 3) := by decide +kernel
theorem dX6_speckle_8 : decode cX6_speckle 8 = .ok (.invokevirtual 42, 3) := by decide +kernel
theorem dX6_speckle_11 : decode cX6_speckle 11 = .ok (.istore_n 1, 1) := by decide +kernel
theorem dX6_speckle_12 : decode cX6_speckle 12 = .ok (.aload_n 0, 1) := by decide +kernel
theorem dX6_speckle_13 : decode cX6_speckle 13 = .ok (.aload_n 0, 1) := by decide +kernel
theorem dX6_speckle_14 : decode cX6_speckle 14 = .ok (.getfield 12, 3) := by decide +kernel
theorem dX6_speckle_17 : decode cX6_speckle 17 = .ok (.getfield 46, 3) := by decide +kernel
theorem dX6_speckle_20 : decode cX6_speckle 20 = .ok (.invokevirtual 42, 3) := by decide +kernel
theorem dX6_speckle_23 : decode cX6_speckle 23 = .ok (.istore_n 2, 1) := by decide +kernel
theorem dX6_speckle_24 : decode cX6_speckle 24 = .ok (.aload_n 0, 1) := by decide +kernel
theorem dX6_speckle_25 : decode cX6_speckle 25 = .ok (.iconst 3, 1) := by decide +kernel
theorem dX6_speckle_26 : decode cX6_speckle 26 = .ok (.invokevirtual 42, 3) := by decide +kernel
theorem dX6_speckle_29 : decode cX6_speckle 29 = .ok (.istore_n 3, 1) := by decide +kernel
theorem dX6_speckle_30 : decode cX6_speckle 30 = .ok (.iload_n 3, 1) := by decide +kernel
theorem dX6_speckle_31 : decode cX6_speckle 31 = .ok (.ifCond .ne 7, 3) := by decide +kernel
theorem dX6_speckle_34 : decode cX6_speckle 34 = .ok (.iconst 0, 1) := by decide +kernel
theorem dX6_speckle_35 : decode cX6_speckle 35 = .ok (.goto 21, 3) := by decide +kernel
theorem dX6_speckle_38 : decode cX6_speckle 38 = .ok (.iload_n 3, 1) := by decide +kernel
theorem dX6_speckle_39 : decode cX6_speckle 39 = .ok (.iconst 1, 1) := by decide +kernel
theorem dX6_speckle_40 : decode cX6_speckle 40 = .ok (.if_icmp .ne 9, 3) := by decide +kernel
theorem dX6_speckle_43 : decode cX6_speckle 43 = .ok (.sipush 255, 3) := by decide +kernel
theorem dX6_speckle_46 : decode cX6_speckle 46 = .ok (.goto 10, 3) := by decide +kernel
theorem dX6_speckle_49 : decode cX6_speckle 49 = .ok (.aload_n 0, 1) := by decide +kernel
theorem dX6_speckle_50 : decode cX6_speckle 50 = .ok (.sipush 256, 3) := by decide +kernel
theorem dX6_speckle_53 : decode cX6_speckle 53 = .ok (.invokevirtual 42, 3) := by decide +kernel
theorem dX6_speckle_56 : decode cX6_speckle 56 = .ok (.istore 4, 2) := by decide +kernel
theorem dX6_speckle_58 : decode cX6_speckle 58 = .ok (.aload_n 0, 1) := by decide +kernel
theorem dX6_speckle_59 : decode cX6_speckle 59 = .ok (.getfield 12, 3) := by decide +kernel
theorem dX6_speckle_62 : decode cX6_speckle 62 = .ok (.iload_n 1, 1) := by decide +kernel
theorem dX6_speckle_63 : decode cX6_speckle 63 = .ok (.iload_n 2, 1) := by decide +kernel
theorem dX6_speckle_64 : decode cX6_speckle 64 = .ok (.iload 4, 2) := by decide +kernel
theorem dX6_speckle_66 : decode cX6_speckle 66 = .ok (.invokevirtual 49, 3) := by decide +kernel
theorem dX6_speckle_69 : decode cX6_speckle 69 = .ok (.return_, 1) := by decide +kernel
theorem dX6_draw_0 : decode cX6_draw 0 = .ok (.aload_n 0, 1) := by decide +kernel
theorem dX6_draw_1 : decode cX6_draw 1 = .ok (.aload_n 0, 1) := by decide +kernel
theorem dX6_draw_2 : decode cX6_draw 2 = .ok (.getfield 29, 3) := by decide +kernel
theorem dX6_draw_5 : decode cX6_draw 5 = .ok (.i2l, 1) := by decide +kernel
theorem dX6_draw_6 : decode cX6_draw 6 = .ok (.ldc2_w 53, 3) := by decide +kernel
theorem dX6_draw_9 : decode cX6_draw 9 = .ok (.lmul, 1) := by decide +kernel
theorem dX6_draw_10 : decode cX6_draw 10 = .ok (.ldc2_w 55, 3) := by decide +kernel
theorem dX6_draw_13 : decode cX6_draw 13 = .ok (.ladd, 1) := by decide +kernel
theorem dX6_draw_14 : decode cX6_draw 14 = .ok (.ldc2_w 57, 3) := by decide +kernel
theorem dX6_draw_17 : decode cX6_draw 17 = .ok (.lrem, 1) := by decide +kernel
theorem dX6_draw_18 : decode cX6_draw 18 = .ok (.l2i, 1) := by decide +kernel
theorem dX6_draw_19 : decode cX6_draw 19 = .ok (.putfield 29, 3) := by decide +kernel
theorem dX6_draw_22 : decode cX6_draw 22 = .ok (.iload_n 1, 1) := by decide +kernel
theorem dX6_draw_23 : decode cX6_draw 23 = .ok (.ifCond .le 15, 3) := by decide +kernel
theorem dX6_draw_26 : decode cX6_draw 26 = .ok (.aload_n 0, 1) := by decide +kernel
theorem dX6_draw_27 : decode cX6_draw 27 = .ok (.getfield 29, 3) := by decide +kernel
theorem dX6_draw_30 : decode cX6_draw 30 = .ok (.ldc 59, 2) := by decide +kernel
theorem dX6_draw_32 : decode cX6_draw 32 = .ok (.idiv, 1) := by decide +kernel
theorem dX6_draw_33 : decode cX6_draw 33 = .ok (.iload_n 1, 1) := by decide +kernel
theorem dX6_draw_34 : decode cX6_draw 34 = .ok (.irem, 1) := by decide +kernel
theorem dX6_draw_35 : decode cX6_draw 35 = .ok (.goto 4, 3) := by decide +kernel
theorem dX6_draw_38 : decode cX6_draw 38 = .ok (.iconst 0, 1) := by decide +kernel
theorem dX6_draw_39 : decode cX6_draw 39 = .ok (.ireturn, 1) := by decide +kernel
theorem dX7_init_0 : decode cX7_init 0 = .ok (.aload_n 0, 1) := by decide +kernel
theorem dX7_init_1 : decode cX7_init 1 = .ok (.invokespecial 3, 3) := by decide +kernel
theorem dX7_init_4 : decode cX7_init 4 = .ok (.aload_n 0, 1) := by decide +kernel
theorem dX7_init_5 : decode cX7_init 5 = .ok (.iconst 0, 1) := by decide +kernel
theorem dX7_init_6 : decode cX7_init 6 = .ok (.putfield 9, 3) := by decide +kernel
theorem dX7_init_9 : decode cX7_init 9 = .ok (.aload_n 0, 1) := by decide +kernel
theorem dX7_init_10 : decode cX7_init 10 = .ok (.sipush 180, 3) := by decide +kernel
theorem dX7_init_13 : decode cX7_init 13 = .ok (.newarray .int, 2) := by decide +kernel
theorem dX7_init_15 : decode cX7_init 15 = .ok (.putfield 15, 3) := by decide +kernel
theorem dX7_init_18 : decode cX7_init 18 = .ok (.aload_n 0, 1) := by decide +kernel
theorem dX7_init_19 : decode cX7_init 19 = .ok (.iconst 0, 1) := by decide +kernel
theorem dX7_init_20 : decode cX7_init 20 = .ok (.putfield 19, 3) := by decide +kernel
theorem dX7_init_23 : decode cX7_init 23 = .ok (.return_, 1) := by decide +kernel
theorem dX7_append_0 : decode cX7_append 0 = .ok (.aload_n 0, 1) := by decide +kernel
theorem dX7_append_1 : decode cX7_append 1 = .ok (.getfield 9, 3) := by decide +kernel
theorem dX7_append_4 : decode cX7_append 4 = .ok (.sipush 180, 3) := by decide +kernel
theorem dX7_append_7 : decode cX7_append 7 = .ok (.if_icmp .lt 6, 3) := by decide +kernel
theorem dX7_append_10 : decode cX7_append 10 = .ok (.ldc 22, 2) := by decide +kernel
theorem dX7_append_12 : decode cX7_append 12 = .ok (.ireturn, 1) := by decide +kernel
theorem dX7_append_13 : decode cX7_append 13 = .ok (.aload_n 0, 1) := by decide +kernel
theorem dX7_append_14 : decode cX7_append 14 = .ok (.getfield 15, 3) := by decide +kernel
theorem dX7_append_17 : decode cX7_append 17 = .ok (.aload_n 0, 1) := by decide +kernel
theorem dX7_append_18 : decode cX7_append 18 = .ok (.getfield 9, 3) := by decide +kernel
theorem dX7_append_21 : decode cX7_append 21 = .ok (.iload_n 1, 1) := by decide +kernel
theorem dX7_append_22 : decode cX7_append 22 = .ok (.iastore, 1) := by decide +kernel
theorem dX7_append_23 : decode cX7_append 23 = .ok (.aload_n 0, 1) := by decide +kernel
theorem dX7_append_24 : decode cX7_append 24 = .ok (.dup, 1) := by decide +kernel
theorem dX7_append_25 : decode cX7_append 25 = .ok (.getfield 9, 3) := by decide +kernel
theorem dX7_append_28 : decode cX7_append 28 = .ok (.iconst 1, 1) := by decide +kernel
theorem dX7_append_29 : decode cX7_append 29 = .ok (.iadd, 1) := by decide +kernel
theorem dX7_append_30 : decode cX7_append 30 = .ok (.putfield 9, 3) := by decide +kernel
theorem dX7_append_33 : decode cX7_append 33 = .ok (.aload_n 0, 1) := by decide +kernel
theorem dX7_append_34 : decode cX7_append 34 = .ok (.getfield 9, 3) := by decide +kernel
theorem dX7_append_37 : decode cX7_append 37 = .ok (.ireturn, 1) := by decide +kernel
theorem dX7_clear_0 : decode cX7_clear 0 = .ok (.aload_n 0, 1) := by decide +kernel
theorem dX7_clear_1 : decode cX7_clear 1 = .ok (.iconst 0, 1) := by decide +kernel
theorem dX7_clear_2 : decode cX7_clear 2 = .ok (.putfield 9, 3) := by decide +kernel
theorem dX7_clear_5 : decode cX7_clear 5 = .ok (.return_, 1) := by decide +kernel
theorem dX7_placeRead_0 : decode cX7_placeRead 0 = .ok (.aload_n 0, 1) := by decide +kernel
theorem dX7_placeRead_1 : decode cX7_placeRead 1 = .ok (.getfield 19, 3) := by decide +kernel
theorem dX7_placeRead_4 : decode cX7_placeRead 4 = .ok (.ireturn, 1) := by decide +kernel
theorem dX7_readInto_0 : decode cX7_readInto 0 = .ok (.new 23, 3) := by decide +kernel
theorem dX7_readInto_3 : decode cX7_readInto 3 = .ok (.dup, 1) := by decide +kernel
theorem dX7_readInto_4 : decode cX7_readInto 4 = .ok (.aload_n 1, 1) := by decide +kernel
theorem dX7_readInto_5 : decode cX7_readInto 5 = .ok (.invokespecial 25, 3) := by decide +kernel
theorem dX7_readInto_8 : decode cX7_readInto 8 = .ok (.astore_n 2, 1) := by decide +kernel
theorem dX7_readInto_9 : decode cX7_readInto 9 = .ok (.iconst 0, 1) := by decide +kernel
theorem dX7_readInto_10 : decode cX7_readInto 10 = .ok (.istore_n 3, 1) := by decide +kernel
theorem dX7_readInto_11 : decode cX7_readInto 11 = .ok (.iload_n 3, 1) := by decide +kernel
theorem dX7_readInto_12 : decode cX7_readInto 12 = .ok (.aload_n 0, 1) := by decide +kernel
theorem dX7_readInto_13 : decode cX7_readInto 13 = .ok (.getfield 9, 3) := by decide +kernel
theorem dX7_readInto_16 : decode cX7_readInto 16 = .ok (.if_icmp .ge 34, 3) := by decide +kernel
theorem dX7_readInto_19 : decode cX7_readInto 19 = .ok (.aload_n 0, 1) := by decide +kernel
theorem dX7_readInto_20 : decode cX7_readInto 20 = .ok (.iload_n 3, 1) := by decide +kernel
theorem dX7_readInto_21 : decode cX7_readInto 21 = .ok (.putfield 19, 3) := by decide +kernel
theorem dX7_readInto_24 : decode cX7_readInto 24 = .ok (.aload_n 2, 1) := by decide +kernel
theorem dX7_readInto_25 : decode cX7_readInto 25 = .ok (.aload_n 0, 1) := by decide +kernel
theorem dX7_readInto_26 : decode cX7_readInto 26 = .ok (.getfield 15, 3) := by decide +kernel
theorem dX7_readInto_29 : decode cX7_readInto 29 = .ok (.iload_n 3, 1) := by decide +kernel
theorem dX7_readInto_30 : decode cX7_readInto 30 = .ok (.iaload, 1) := by decide +kernel
theorem dX7_readInto_31 : decode cX7_readInto 31 = .ok (.invokevirtual 28, 3) := by decide +kernel
theorem dX7_readInto_34 : decode cX7_readInto 34 = .ok (.istore 4, 2) := by decide +kernel
theorem dX7_readInto_36 : decode cX7_readInto 36 = .ok (.iload 4, 2) := by decide +kernel
theorem dX7_readInto_38 : decode cX7_readInto 38 = .ok (.ifCond .eq 6, 3) := by decide +kernel
theorem dX7_readInto_41 : decode cX7_readInto 41 = .ok (.iload 4, 2) := by decide +kernel
theorem dX7_readInto_43 : decode cX7_readInto 43 = .ok (.ireturn, 1) := by decide +kernel
theorem dX7_readInto_44 : decode cX7_readInto 44 = .ok (.iinc 3 1, 3) := by decide +kernel
theorem dX7_readInto_47 : decode cX7_readInto 47 = .ok (.goto (-36), 3) := by decide +kernel
theorem dX7_readInto_50 : decode cX7_readInto 50 = .ok (.aload_n 0, 1) := by decide +kernel
theorem dX7_readInto_51 : decode cX7_readInto 51 = .ok (.aload_n 0, 1) := by decide +kernel
theorem dX7_readInto_52 : decode cX7_readInto 52 = .ok (.getfield 9, 3) := by decide +kernel
theorem dX7_readInto_55 : decode cX7_readInto 55 = .ok (.putfield 19, 3) := by decide +kernel
theorem dX7_readInto_58 : decode cX7_readInto 58 = .ok (.aload_n 2, 1) := by decide +kernel
theorem dX7_readInto_59 : decode cX7_readInto 59 = .ok (.iconst 1, 1) := by decide +kernel
theorem dX7_readInto_60 : decode cX7_readInto 60 = .ok (.invokevirtual 32, 3) := by decide +kernel
theorem dX7_readInto_63 : decode cX7_readInto 63 = .ok (.ireturn, 1) := by decide +kernel
theorem dX8_init_0 : decode cX8_init 0 = .ok (.aload_n 0, 1) := by decide +kernel
theorem dX8_init_1 : decode cX8_init 1 = .ok (.invokespecial 3, 3) := by decide +kernel
theorem dX8_init_4 : decode cX8_init 4 = .ok (.aload_n 0, 1) := by decide +kernel
theorem dX8_init_5 : decode cX8_init 5 = .ok (.iconst 0, 1) := by decide +kernel
theorem dX8_init_6 : decode cX8_init 6 = .ok (.putfield 9, 3) := by decide +kernel
theorem dX8_init_9 : decode cX8_init 9 = .ok (.aload_n 0, 1) := by decide +kernel
theorem dX8_init_10 : decode cX8_init 10 = .ok (.bipush 16, 2) := by decide +kernel
theorem dX8_init_12 : decode cX8_init 12 = .ok (.newarray .int, 2) := by decide +kernel
theorem dX8_init_14 : decode cX8_init 14 = .ok (.putfield 15, 3) := by decide +kernel
theorem dX8_init_17 : decode cX8_init 17 = .ok (.aload_n 0, 1) := by decide +kernel
theorem dX8_init_18 : decode cX8_init 18 = .ok (.sipush 256, 3) := by decide +kernel
theorem dX8_init_21 : decode cX8_init 21 = .ok (.newarray .int, 2) := by decide +kernel
theorem dX8_init_23 : decode cX8_init 23 = .ok (.putfield 19, 3) := by decide +kernel
theorem dX8_init_26 : decode cX8_init 26 = .ok (.return_, 1) := by decide +kernel
theorem dX8_lookAt_0 : decode cX8_lookAt 0 = .ok (.aload_n 0, 1) := by decide +kernel
theorem dX8_lookAt_1 : decode cX8_lookAt 1 = .ok (.iconst 0, 1) := by decide +kernel
theorem dX8_lookAt_2 : decode cX8_lookAt 2 = .ok (.putfield 9, 3) := by decide +kernel
theorem dX8_lookAt_5 : decode cX8_lookAt 5 = .ok (.aload_n 0, 1) := by decide +kernel
theorem dX8_lookAt_6 : decode cX8_lookAt 6 = .ok (.getfield 15, 3) := by decide +kernel
theorem dX8_lookAt_9 : decode cX8_lookAt 9 = .ok (.iconst 0, 1) := by decide +kernel
theorem dX8_lookAt_10 : decode cX8_lookAt 10 = .ok (.invokestatic 22, 3) := by decide +kernel
theorem dX8_lookAt_13 : decode cX8_lookAt 13 = .ok (.aload_n 0, 1) := by decide +kernel
theorem dX8_lookAt_14 : decode cX8_lookAt 14 = .ok (.getfield 19, 3) := by decide +kernel
theorem dX8_lookAt_17 : decode cX8_lookAt 17 = .ok (.iconst 0, 1) := by decide +kernel
theorem dX8_lookAt_18 : decode cX8_lookAt 18 = .ok (.invokestatic 22, 3) := by decide +kernel
theorem dX8_lookAt_21 : decode cX8_lookAt 21 = .ok (.iload 5, 2) := by decide +kernel
theorem dX8_lookAt_23 : decode cX8_lookAt 23 = .ok (.aload_n 2, 1) := by decide +kernel
theorem dX8_lookAt_24 : decode cX8_lookAt 24 = .ok (.getfield 28, 3) := by decide +kernel
theorem dX8_lookAt_27 : decode cX8_lookAt 27 = .ok (.isub, 1) := by decide +kernel
theorem dX8_lookAt_28 : decode cX8_lookAt 28 = .ok (.istore 6, 2) := by decide +kernel
theorem dX8_lookAt_30 : decode cX8_lookAt 30 = .ok (.iload 6, 2) := by decide +kernel
theorem dX8_lookAt_32 : decode cX8_lookAt 32 = .ok (.iload 5, 2) := by decide +kernel
theorem dX8_lookAt_34 : decode cX8_lookAt 34 = .ok (.aload_n 2, 1) := by decide +kernel
theorem dX8_lookAt_35 : decode cX8_lookAt 35 = .ok (.getfield 28, 3) := by decide +kernel
theorem dX8_lookAt_38 : decode cX8_lookAt 38 = .ok (.iadd, 1) := by decide +kernel
theorem dX8_lookAt_39 : decode cX8_lookAt 39 = .ok (.if_icmp .gt 31, 3) := by decide +kernel
theorem dX8_lookAt_42 : decode cX8_lookAt 42 = .ok (.aload_n 0, 1) := by decide +kernel
theorem dX8_lookAt_43 : decode cX8_lookAt 43 = .ok (.aload_n 1, 1) := by decide +kernel
theorem dX8_lookAt_44 : decode cX8_lookAt 44 = .ok (.aload_n 2, 1) := by decide +kernel
theorem dX8_lookAt_45 : decode cX8_lookAt 45 = .ok (.iload_n 3, 1) := by decide +kernel
theorem dX8_lookAt_46 : decode cX8_lookAt 46 = .ok (.iload 4, 2) := by decide +kernel
theorem dX8_lookAt_48 : decode cX8_lookAt 48 = .ok (.iload 6, 2) := by decide +kernel
theorem dX8_lookAt_50 : decode cX8_lookAt 50 = .ok (.aload_n 1, 1) := by decide +kernel
theorem dX8_lookAt_51 : decode cX8_lookAt 51 = .ok (.getfield 33, 3) := by decide +kernel
theorem dX8_lookAt_54 : decode cX8_lookAt 54 = .ok (.aload_n 2, 1) := by decide +kernel
theorem dX8_lookAt_55 : decode cX8_lookAt 55 = .ok (.getfield 38, 3) := by decide +kernel
theorem dX8_lookAt_58 : decode cX8_lookAt 58 = .ok (.invokestatic 41, 3) := by decide +kernel
theorem dX8_lookAt_61 : decode cX8_lookAt 61 = .ok (.invokevirtual 45, 3) := by decide +kernel
theorem dX8_lookAt_64 : decode cX8_lookAt 64 = .ok (.iinc 6 1, 3) := by decide +kernel
theorem dX8_lookAt_67 : decode cX8_lookAt 67 = .ok (.goto (-37), 3) := by decide +kernel
theorem dX8_lookAt_70 : decode cX8_lookAt 70 = .ok (.aload_n 1, 1) := by decide +kernel
theorem dX8_lookAt_71 : decode cX8_lookAt 71 = .ok (.iload 4, 2) := by decide +kernel
theorem dX8_lookAt_73 : decode cX8_lookAt 73 = .ok (.iload 5, 2) := by decide +kernel
theorem dX8_lookAt_75 : decode cX8_lookAt 75 = .ok (.invokevirtual 49, 3) := by decide +kernel
theorem dX8_lookAt_78 : decode cX8_lookAt 78 = .ok (.ifCond .ne 21, 3) := by decide +kernel
theorem dX8_lookAt_81 : decode cX8_lookAt 81 = .ok (.aload_n 0, 1) := by decide +kernel
theorem dX8_lookAt_82 : decode cX8_lookAt 82 = .ok (.aload_n 1, 1) := by decide +kernel
theorem dX8_lookAt_83 : decode cX8_lookAt 83 = .ok (.iload 4, 2) := by decide +kernel
theorem dX8_lookAt_85 : decode cX8_lookAt 85 = .ok (.iload 5, 2) := by decide +kernel
theorem dX8_lookAt_87 : decode cX8_lookAt 87 = .ok (.invokevirtual 53, 3) := by decide +kernel
theorem dX8_lookAt_90 : decode cX8_lookAt 90 = .ok (.aload_n 2, 1) := by decide +kernel
theorem dX8_lookAt_91 : decode cX8_lookAt 91 = .ok (.getfield 57, 3) := by decide +kernel
theorem dX8_lookAt_94 : decode cX8_lookAt 94 = .ok (.iconst 1, 1) := by decide +kernel
theorem dX8_lookAt_95 : decode cX8_lookAt 95 = .ok (.isub, 1) := by decide +kernel
theorem dX8_lookAt_96 : decode cX8_lookAt 96 = .ok (.invokevirtual 60, 3) := by decide +kernel
theorem dX8_lookAt_99 : decode cX8_lookAt 99 = .ok (.return_, 1) := by decide +kernel
theorem dX8_ranked_0 : decode cX8_ranked 0 = .ok (.aload_n 0, 1) := by decide +kernel
theorem dX8_ranked_1 : decode cX8_ranked 1 = .ok (.getfield 9, 3) := by decide +kernel
theorem dX8_ranked_4 : decode cX8_ranked 4 = .ok (.ifCond .ne 5, 3) := by decide +kernel
theorem dX8_ranked_7 : decode cX8_ranked 7 = .ok (.iconst (-1), 1) := by decide +kernel
theorem dX8_ranked_8 : decode cX8_ranked 8 = .ok (.ireturn, 1) := by decide +kernel
theorem dX8_ranked_9 : decode cX8_ranked 9 = .ok (.iload_n 1, 1) := by decide +kernel
theorem dX8_ranked_10 : decode cX8_ranked 10 = .ok (.aload_n 0, 1) := by decide +kernel
theorem dX8_ranked_11 : decode cX8_ranked 11 = .ok (.getfield 9, 3) := by decide +kernel
theorem dX8_ranked_14 : decode cX8_ranked 14 = .ok (.iconst 1, 1) := by decide +kernel
theorem dX8_ranked_15 : decode cX8_ranked 15 = .ok (.isub, 1) := by decide +kernel
theorem dX8_ranked_16 : decode cX8_ranked 16 = .ok (.imul, 1) := by decide +kernel
theorem dX8_ranked_17 : decode cX8_ranked 17 = .ok (.bipush 100, 2) := by decide +kernel
theorem dX8_ranked_19 : decode cX8_ranked 19 = .ok (.idiv, 1) := by decide +kernel
theorem dX8_ranked_20 : decode cX8_ranked 20 = .ok (.istore_n 2, 1) := by decide +kernel
theorem dX8_ranked_21 : decode cX8_ranked 21 = .ok (.iconst 0, 1) := by decide +kernel
theorem dX8_ranked_22 : decode cX8_ranked 22 = .ok (.istore_n 3, 1) := by decide +kernel
theorem dX8_ranked_23 : decode cX8_ranked 23 = .ok (.iload_n 3, 1) := by decide +kernel
theorem dX8_ranked_24 : decode cX8_ranked 24 = .ok (.bipush 15, 2) := by decide +kernel
theorem dX8_ranked_26 : decode cX8_ranked 26 = .ok (.if_icmp .ge 28, 3) := by decide +kernel
theorem dX8_ranked_29 : decode cX8_ranked 29 = .ok (.iload_n 2, 1) := by decide +kernel
theorem dX8_ranked_30 : decode cX8_ranked 30 = .ok (.aload_n 0, 1) := by decide +kernel
theorem dX8_ranked_31 : decode cX8_ranked 31 = .ok (.getfield 15, 3) := by decide +kernel
theorem dX8_ranked_34 : decode cX8_ranked 34 = .ok (.iload_n 3, 1) := by decide +kernel
theorem dX8_ranked_35 : decode cX8_ranked 35 = .ok (.iaload, 1) := by decide +kernel
theorem dX8_ranked_36 : decode cX8_ranked 36 = .ok (.if_icmp .lt 18, 3) := by decide +kernel
theorem dX8_ranked_39 : decode cX8_ranked 39 = .ok (.iload_n 2, 1) := by decide +kernel
theorem dX8_ranked_40 : decode cX8_ranked 40 = .ok (.aload_n 0, 1) := by decide +kernel
theorem dX8_ranked_41 : decode cX8_ranked 41 = .ok (.getfield 15, 3) := by decide +kernel
theorem dX8_ranked_44 : decode cX8_ranked 44 = .ok (.iload_n 3, 1) := by decide +kernel
theorem dX8_ranked_45 : decode cX8_ranked 45 = .ok (.iaload, 1) := by decide +kernel
theorem dX8_ranked_46 : decode cX8_ranked 46 = .ok (.isub, 1) := by decide +kernel
theorem dX8_ranked_47 : decode cX8_ranked 47 = .ok (.istore_n 2, 1) := by decide +kernel
theorem dX8_ranked_48 : decode cX8_ranked 48 = .ok (.iinc 3 1, 3) := by decide +kernel
theorem dX8_ranked_51 : decode cX8_ranked 51 = .ok (.goto (-28), 3) := by decide +kernel
theorem dX8_ranked_54 : decode cX8_ranked 54 = .ok (.iload_n 3, 1) := by decide +kernel
theorem dX8_ranked_55 : decode cX8_ranked 55 = .ok (.bipush 16, 2) := by decide +kernel
theorem dX8_ranked_57 : decode cX8_ranked 57 = .ok (.imul, 1) := by decide +kernel
theorem dX8_ranked_58 : decode cX8_ranked 58 = .ok (.istore 4, 2) := by decide +kernel
theorem dX8_ranked_60 : decode cX8_ranked 60 = .ok (.iload 4, 2) := by decide +kernel
theorem dX8_ranked_62 : decode cX8_ranked 62 = .ok (.sipush 255, 3) := by decide +kernel
theorem dX8_ranked_65 : decode cX8_ranked 65 = .ok (.if_icmp .ge 30, 3) := by decide +kernel
theorem dX8_ranked_68 : decode cX8_ranked 68 = .ok (.iload_n 2, 1) := by decide +kernel
theorem dX8_ranked_69 : decode cX8_ranked 69 = .ok (.aload_n 0, 1) := by decide +kernel
theorem dX8_ranked_70 : decode cX8_ranked 70 = .ok (.getfield 19, 3) := by decide +kernel
theorem dX8_ranked_73 : decode cX8_ranked 73 = .ok (.iload 4, 2) := by decide +kernel
theorem dX8_ranked_75 : decode cX8_ranked 75 = .ok (.iaload, 1) := by decide +kernel
theorem dX8_ranked_76 : decode cX8_ranked 76 = .ok (.if_icmp .lt 19, 3) := by decide +kernel
theorem dX8_ranked_79 : decode cX8_ranked 79 = .ok (.iload_n 2, 1) := by decide +kernel
theorem dX8_ranked_80 : decode cX8_ranked 80 = .ok (.aload_n 0, 1) := by decide +kernel
theorem dX8_ranked_81 : decode cX8_ranked 81 = .ok (.getfield 19, 3) := by decide +kernel
theorem dX8_ranked_84 : decode cX8_ranked 84 = .ok (.iload 4, 2) := by decide +kernel
theorem dX8_ranked_86 : decode cX8_ranked 86 = .ok (.iaload, 1) := by decide +kernel
theorem dX8_ranked_87 : decode cX8_ranked 87 = .ok (.isub, 1) := by decide +kernel
theorem dX8_ranked_88 : decode cX8_ranked 88 = .ok (.istore_n 2, 1) := by decide +kernel
theorem dX8_ranked_89 : decode cX8_ranked 89 = .ok (.iinc 4 1, 3) := by decide +kernel
theorem dX8_ranked_92 : decode cX8_ranked 92 = .ok (.goto (-32), 3) := by decide +kernel
theorem dX8_ranked_95 : decode cX8_ranked 95 = .ok (.iload 4, 2) := by decide +kernel
theorem dX8_ranked_97 : decode cX8_ranked 97 = .ok (.ireturn, 1) := by decide +kernel
theorem dX8_countedBelow_0 : decode cX8_countedBelow 0 = .ok (.iconst 0, 1) := by decide +kernel
theorem dX8_countedBelow_1 : decode cX8_countedBelow 1 = .ok (.istore_n 2, 1) := by decide +kernel
theorem dX8_countedBelow_2 : decode cX8_countedBelow 2 = .ok (.iconst 0, 1) := by decide +kernel
theorem dX8_countedBelow_3 : decode cX8_countedBelow 3 = .ok (.istore_n 3, 1) := by decide +kernel
theorem dX8_countedBelow_4 : decode cX8_countedBelow 4 = .ok (.iload_n 3, 1) := by decide +kernel
theorem dX8_countedBelow_5 : decode cX8_countedBelow 5 = .ok (.iload_n 1, 1) := by decide +kernel
theorem dX8_countedBelow_6 : decode cX8_countedBelow 6 = .ok (.if_icmp .ge 25, 3) := by decide +kernel
theorem dX8_countedBelow_9 : decode cX8_countedBelow 9 = .ok (.iload_n 3, 1) := by decide +kernel
theorem dX8_countedBelow_10 : decode cX8_countedBelow 10 = .ok (.sipush 256, 3) := by decide +kernel
theorem dX8_countedBelow_13 : decode cX8_countedBelow 13 = .ok (.if_icmp .ge 18, 3) := by decide +kernel
theorem dX8_countedBelow_16 : decode cX8_countedBelow 16 = .ok (.iload_n 2, 1) := by decide +kernel
theorem dX8_countedBelow_17 : decode cX8_countedBelow 17 = .ok (.aload_n 0, 1) := by decide +kernel
theorem dX8_countedBelow_18 : decode cX8_countedBelow 18 = .ok (.getfield 19, 3) := by decide +kernel
theorem dX8_countedBelow_21 : decode cX8_countedBelow 21 = .ok (.iload_n 3, 1) := by decide +kernel
theorem dX8_countedBelow_22 : decode cX8_countedBelow 22 = .ok (.iaload, 1) := by decide +kernel
theorem dX8_countedBelow_23 : decode cX8_countedBelow 23 = .ok (.iadd, 1) := by decide +kernel
theorem dX8_countedBelow_24 : decode cX8_countedBelow 24 = .ok (.istore_n 2, 1) := by decide +kernel
theorem dX8_countedBelow_25 : decode cX8_countedBelow 25 = .ok (.iinc 3 1, 3) := by decide +kernel
theorem dX8_countedBelow_28 : decode cX8_countedBelow 28 = .ok (.goto (-24), 3) := by decide +kernel
theorem dX8_countedBelow_31 : decode cX8_countedBelow 31 = .ok (.iload_n 2, 1) := by decide +kernel
theorem dX8_countedBelow_32 : decode cX8_countedBelow 32 = .ok (.ireturn, 1) := by decide +kernel
theorem dX8_spread_0 : decode cX8_spread 0 = .ok (.aload_n 0, 1) := by decide +kernel
theorem dX8_spread_1 : decode cX8_spread 1 = .ok (.getfield 9, 3) := by decide +kernel
theorem dX8_spread_4 : decode cX8_spread 4 = .ok (.ifCond .ne 7, 3) := by decide +kernel
theorem dX8_spread_7 : decode cX8_spread 7 = .ok (.iconst (-1), 1) := by decide +kernel
theorem dX8_spread_8 : decode cX8_spread 8 = .ok (.goto 15, 3) := by decide +kernel
theorem dX8_spread_11 : decode cX8_spread 11 = .ok (.aload_n 0, 1) := by decide +kernel
theorem dX8_spread_12 : decode cX8_spread 12 = .ok (.bipush 100, 2) := by decide +kernel
theorem dX8_spread_14 : decode cX8_spread 14 = .ok (.invokevirtual 64, 3) := by decide +kernel
theorem dX8_spread_17 : decode cX8_spread 17 = .ok (.aload_n 0, 1) := by decide +kernel
theorem dX8_spread_18 : decode cX8_spread 18 = .ok (.iconst 0, 1) := by decide +kernel
theorem dX8_spread_19 : decode cX8_spread 19 = .ok (.invokevirtual 64, 3) := by decide +kernel
theorem dX8_spread_22 : decode cX8_spread 22 = .ok (.isub, 1) := by decide +kernel
theorem dX8_spread_23 : decode cX8_spread 23 = .ok (.ireturn, 1) := by decide +kernel
theorem dX8_countRow_0 : decode cX8_countRow 0 = .ok (.iload 4, 2) := by decide +kernel
theorem dX8_countRow_2 : decode cX8_countRow 2 = .ok (.aload_n 2, 1) := by decide +kernel
theorem dX8_countRow_3 : decode cX8_countRow 3 = .ok (.getfield 68, 3) := by decide +kernel
theorem dX8_countRow_6 : decode cX8_countRow 6 = .ok (.isub, 1) := by decide +kernel
theorem dX8_countRow_7 : decode cX8_countRow 7 = .ok (.istore 6, 2) := by decide +kernel
theorem dX8_countRow_9 : decode cX8_countRow 9 = .ok (.iload 6, 2) := by decide +kernel
theorem dX8_countRow_11 : decode cX8_countRow 11 = .ok (.iload 4, 2) := by decide +kernel
theorem dX8_countRow_13 : decode cX8_countRow 13 = .ok (.aload_n 2, 1) := by decide +kernel
theorem dX8_countRow_14 : decode cX8_countRow 14 = .ok (.getfield 68, 3) := by decide +kernel
theorem dX8_countRow_17 : decode cX8_countRow 17 = .ok (.iadd, 1) := by decide +kernel
theorem dX8_countRow_18 : decode cX8_countRow 18 = .ok (.if_icmp .gt 81, 3) := by decide +kernel
theorem dX8_countRow_21 : decode cX8_countRow 21 = .ok (.iload 6, 2) := by decide +kernel
theorem dX8_countRow_23 : decode cX8_countRow 23 = .ok (.aload_n 1, 1) := by decide +kernel
theorem dX8_countRow_24 : decode cX8_countRow 24 = .ok (.getfield 71, 3) := by decide +kernel
theorem dX8_countRow_27 : decode cX8_countRow 27 = .ok (.aload_n 2, 1) := by decide +kernel
theorem dX8_countRow_28 : decode cX8_countRow 28 = .ok (.getfield 38, 3) := by decide +kernel
theorem dX8_countRow_31 : decode cX8_countRow 31 = .ok (.invokestatic 41, 3) := by decide +kernel
theorem dX8_countRow_34 : decode cX8_countRow 34 = .ok (.istore 7, 2) := by decide +kernel
theorem dX8_countRow_36 : decode cX8_countRow 36 = .ok (.iload 5, 2) := by decide +kernel
theorem dX8_countRow_38 : decode cX8_countRow 38 = .ok (.iconst (-1), 1) := by decide +kernel
theorem dX8_countRow_39 : decode cX8_countRow 39 = .ok (.if_icmp .eq 9, 3) := by decide +kernel
theorem dX8_countRow_42 : decode cX8_countRow 42 = .ok (.iload 7, 2) := by decide +kernel
theorem dX8_countRow_44 : decode cX8_countRow 44 = .ok (.iconst (-1), 1) := by decide +kernel
theorem dX8_countRow_45 : decode cX8_countRow 45 = .ok (.if_icmp .ne 24, 3) := by decide +kernel
theorem dX8_countRow_48 : decode cX8_countRow 48 = .ok (.aload_n 0, 1) := by decide +kernel
theorem dX8_countRow_49 : decode cX8_countRow 49 = .ok (.iload_n 3, 1) := by decide +kernel
theorem dX8_countRow_50 : decode cX8_countRow 50 = .ok (.aload_n 2, 1) := by decide +kernel
theorem dX8_countRow_51 : decode cX8_countRow 51 = .ok (.getfield 38, 3) := by decide +kernel
theorem dX8_countRow_54 : decode cX8_countRow 54 = .ok (.iconst 4, 1) := by decide +kernel
theorem dX8_countRow_55 : decode cX8_countRow 55 = .ok (.if_icmp .ne 7, 3) := by decide +kernel
theorem dX8_countRow_58 : decode cX8_countRow 58 = .ok (.iconst 1, 1) := by decide +kernel
theorem dX8_countRow_59 : decode cX8_countRow 59 = .ok (.goto 4, 3) := by decide +kernel
theorem dX8_countRow_62 : decode cX8_countRow 62 = .ok (.iconst 0, 1) := by decide +kernel
theorem dX8_countRow_63 : decode cX8_countRow 63 = .ok (.invokevirtual 60, 3) := by decide +kernel
theorem dX8_countRow_66 : decode cX8_countRow 66 = .ok (.goto 27, 3) := by decide +kernel
theorem dX8_countRow_69 : decode cX8_countRow 69 = .ok (.aload_n 1, 1) := by decide +kernel
theorem dX8_countRow_70 : decode cX8_countRow 70 = .ok (.iload 7, 2) := by decide +kernel
theorem dX8_countRow_72 : decode cX8_countRow 72 = .ok (.iload 5, 2) := by decide +kernel
theorem dX8_countRow_74 : decode cX8_countRow 74 = .ok (.invokevirtual 49, 3) := by decide +kernel
theorem dX8_countRow_77 : decode cX8_countRow 77 = .ok (.ifCond .ne 16, 3) := by decide +kernel
theorem dX8_countRow_80 : decode cX8_countRow 80 = .ok (.aload_n 0, 1) := by decide +kernel
theorem dX8_countRow_81 : decode cX8_countRow 81 = .ok (.aload_n 1, 1) := by decide +kernel
theorem dX8_countRow_82 : decode cX8_countRow 82 = .ok (.iload 7, 2) := by decide +kernel
theorem dX8_countRow_84 : decode cX8_countRow 84 = .ok (.iload 5, 2) := by decide +kernel
theorem dX8_countRow_86 : decode cX8_countRow 86 = .ok (.invokevirtual 53, 3) := by decide +kernel
theorem dX8_countRow_89 : decode cX8_countRow 89 = .ok (.iconst 1, 1) := by decide +kernel
theorem dX8_countRow_90 : decode cX8_countRow 90 = .ok (.invokevirtual 60, 3) := by decide +kernel
theorem dX8_countRow_93 : decode cX8_countRow 93 = .ok (.iinc 6 1, 3) := by decide +kernel
theorem dX8_countRow_96 : decode cX8_countRow 96 = .ok (.goto (-87), 3) := by decide +kernel
theorem dX8_countRow_99 : decode cX8_countRow 99 = .ok (.return_, 1) := by decide +kernel
theorem dX8_count_0 : decode cX8_count 0 = .ok (.iload_n 1, 1) := by decide +kernel
theorem dX8_count_1 : decode cX8_count 1 = .ok (.iconst 0, 1) := by decide +kernel
theorem dX8_count_2 : decode cX8_count 2 = .ok (.sipush 255, 3) := by decide +kernel
theorem dX8_count_5 : decode cX8_count 5 = .ok (.invokestatic 74, 3) := by decide +kernel
theorem dX8_count_8 : decode cX8_count 8 = .ok (.ifCond .eq 36, 3) := by decide +kernel
theorem dX8_count_11 : decode cX8_count 11 = .ok (.aload_n 0, 1) := by decide +kernel
theorem dX8_count_12 : decode cX8_count 12 = .ok (.dup, 1) := by decide +kernel
theorem dX8_count_13 : decode cX8_count 13 = .ok (.getfield 9, 3) := by decide +kernel
theorem dX8_count_16 : decode cX8_count 16 = .ok (.iload_n 2, 1) := by decide +kernel
theorem dX8_count_17 : decode cX8_count 17 = .ok (.iadd, 1) := by decide +kernel
theorem dX8_count_18 : decode cX8_count 18 = .ok (.putfield 9, 3) := by decide +kernel
theorem dX8_count_21 : decode cX8_count 21 = .ok (.aload_n 0, 1) := by decide +kernel
theorem dX8_count_22 : decode cX8_count 22 = .ok (.getfield 15, 3) := by decide +kernel
theorem dX8_count_25 : decode cX8_count 25 = .ok (.iload_n 1, 1) := by decide +kernel
theorem dX8_count_26 : decode cX8_count 26 = .ok (.bipush 16, 2) := by decide +kernel
theorem dX8_count_28 : decode cX8_count 28 = .ok (.idiv, 1) := by decide +kernel
theorem dX8_count_29 : decode cX8_count 29 = .ok (.dup2, 1) := by decide +kernel
theorem dX8_count_30 : decode cX8_count 30 = .ok (.iaload, 1) := by decide +kernel
theorem dX8_count_31 : decode cX8_count 31 = .ok (.iload_n 2, 1) := by decide +kernel
theorem dX8_count_32 : decode cX8_count 32 = .ok (.iadd, 1) := by decide +kernel
theorem dX8_count_33 : decode cX8_count 33 = .ok (.iastore, 1) := by decide +kernel
theorem dX8_count_34 : decode cX8_count 34 = .ok (.aload_n 0, 1) := by decide +kernel
theorem dX8_count_35 : decode cX8_count 35 = .ok (.getfield 19, 3) := by decide +kernel
theorem dX8_count_38 : decode cX8_count 38 = .ok (.iload_n 1, 1) := by decide +kernel
theorem dX8_count_39 : decode cX8_count 39 = .ok (.dup2, 1) := by decide +kernel
theorem dX8_count_40 : decode cX8_count 40 = .ok (.iaload, 1) := by decide +kernel
theorem dX8_count_41 : decode cX8_count 41 = .ok (.iload_n 2, 1) := by decide +kernel
theorem dX8_count_42 : decode cX8_count 42 = .ok (.iadd, 1) := by decide +kernel
theorem dX8_count_43 : decode cX8_count 43 = .ok (.iastore, 1) := by decide +kernel
theorem dX8_count_44 : decode cX8_count 44 = .ok (.return_, 1) := by decide +kernel
theorem dX8_standingFor_0 : decode cX8_standingFor 0 = .ok (.iload_n 1, 1) := by decide +kernel
theorem dX8_standingFor_1 : decode cX8_standingFor 1 = .ok (.iconst 1, 1) := by decide +kernel
theorem dX8_standingFor_2 : decode cX8_standingFor 2 = .ok (.if_icmp .ge 5, 3) := by decide +kernel
theorem dX8_standingFor_5 : decode cX8_standingFor 5 = .ok (.iconst (-1), 1) := by decide +kernel
theorem dX8_standingFor_6 : decode cX8_standingFor 6 = .ok (.ireturn, 1) := by decide +kernel
theorem dX8_standingFor_7 : decode cX8_standingFor 7 = .ok (.iload_n 0, 1) := by decide +kernel
theorem dX8_standingFor_8 : decode cX8_standingFor 8 = .ok (.iconst 0, 1) := by decide +kernel
theorem dX8_standingFor_9 : decode cX8_standingFor 9 = .ok (.iload_n 1, 1) := by decide +kernel
theorem dX8_standingFor_10 : decode cX8_standingFor 10 = .ok (.iconst 1, 1) := by decide +kernel
theorem dX8_standingFor_11 : decode cX8_standingFor 11 = .ok (.isub, 1) := by decide +kernel
theorem dX8_standingFor_12 : decode cX8_standingFor 12 = .ok (.invokestatic 74, 3) := by decide +kernel
theorem dX8_standingFor_15 : decode cX8_standingFor 15 = .ok (.ifCond .eq 5, 3) := by decide +kernel
theorem dX8_standingFor_18 : decode cX8_standingFor 18 = .ok (.iload_n 0, 1) := by decide +kernel
theorem dX8_standingFor_19 : decode cX8_standingFor 19 = .ok (.ireturn, 1) := by decide +kernel
theorem dX8_standingFor_20 : decode cX8_standingFor 20 = .ok (.iload_n 0, 1) := by decide +kernel
theorem dX8_standingFor_21 : decode cX8_standingFor 21 = .ok (.iconst 2, 1) := by decide +kernel
theorem dX8_standingFor_22 : decode cX8_standingFor 22 = .ok (.iload_n 1, 1) := by decide +kernel
theorem dX8_standingFor_23 : decode cX8_standingFor 23 = .ok (.imul, 1) := by decide +kernel
theorem dX8_standingFor_24 : decode cX8_standingFor 24 = .ok (.invokestatic 78, 3) := by decide +kernel
theorem dX8_standingFor_27 : decode cX8_standingFor 27 = .ok (.istore_n 3, 1) := by decide +kernel
theorem dX8_standingFor_28 : decode cX8_standingFor 28 = .ok (.iload_n 2, 1) := by decide +kernel
theorem dX8_standingFor_29 : decode cX8_standingFor 29 = .ok (.tableswitch 57 1 3 #[27, 39, 51], 27) := by decide +kernel
theorem dX8_standingFor_56 : decode cX8_standingFor 56 = .ok (.iload_n 0, 1) := by decide +kernel
theorem dX8_standingFor_57 : decode cX8_standingFor 57 = .ok (.ifCond .ge 7, 3) := by decide +kernel
theorem dX8_standingFor_60 : decode cX8_standingFor 60 = .ok (.iconst 0, 1) := by decide +kernel
theorem dX8_standingFor_61 : decode cX8_standingFor 61 = .ok (.goto 6, 3) := by decide +kernel
theorem dX8_standingFor_64 : decode cX8_standingFor 64 = .ok (.iload_n 1, 1) := by decide +kernel
theorem dX8_standingFor_65 : decode cX8_standingFor 65 = .ok (.iconst 1, 1) := by decide +kernel
theorem dX8_standingFor_66 : decode cX8_standingFor 66 = .ok (.isub, 1) := by decide +kernel
theorem dX8_standingFor_67 : decode cX8_standingFor 67 = .ok (.ireturn, 1) := by decide +kernel
theorem dX8_standingFor_68 : decode cX8_standingFor 68 = .ok (.iload_n 3, 1) := by decide +kernel
theorem dX8_standingFor_69 : decode cX8_standingFor 69 = .ok (.iconst 2, 1) := by decide +kernel
theorem dX8_standingFor_70 : decode cX8_standingFor 70 = .ok (.iload_n 1, 1) := by decide +kernel
theorem dX8_standingFor_71 : decode cX8_standingFor 71 = .ok (.imul, 1) := by decide +kernel
theorem dX8_standingFor_72 : decode cX8_standingFor 72 = .ok (.iconst 1, 1) := by decide +kernel
theorem dX8_standingFor_73 : decode cX8_standingFor 73 = .ok (.isub, 1) := by decide +kernel
theorem dX8_standingFor_74 : decode cX8_standingFor 74 = .ok (.iload_n 3, 1) := by decide +kernel
theorem dX8_standingFor_75 : decode cX8_standingFor 75 = .ok (.isub, 1) := by decide +kernel
theorem dX8_standingFor_76 : decode cX8_standingFor 76 = .ok (.invokestatic 83, 3) := by decide +kernel
theorem dX8_standingFor_79 : decode cX8_standingFor 79 = .ok (.ireturn, 1) := by decide +kernel
theorem dX8_standingFor_80 : decode cX8_standingFor 80 = .ok (.iload_n 0, 1) := by decide +kernel
theorem dX8_standingFor_81 : decode cX8_standingFor 81 = .ok (.iload_n 1, 1) := by decide +kernel
theorem dX8_standingFor_82 : decode cX8_standingFor 82 = .ok (.invokestatic 78, 3) := by decide +kernel
theorem dX8_standingFor_85 : decode cX8_standingFor 85 = .ok (.ireturn, 1) := by decide +kernel
theorem dX8_standingFor_86 : decode cX8_standingFor 86 = .ok (.iconst (-1), 1) := by decide +kernel
theorem dX8_standingFor_87 : decode cX8_standingFor 87 = .ok (.ireturn, 1) := by decide +kernel
theorem dX9_init_0 : decode cX9_init 0 = .ok (.aload_n 0, 1) := by decide +kernel
theorem dX9_init_1 : decode cX9_init 1 = .ok (.invokespecial 1, 3) := by decide +kernel
theorem dX9_init_4 : decode cX9_init 4 = .ok (.aload_n 0, 1) := by decide +kernel
theorem dX9_init_5 : decode cX9_init 5 = .ok (.new 7, 3) := by decide +kernel
theorem dX9_init_8 : decode cX9_init 8 = .ok (.dup, 1) := by decide +kernel
theorem dX9_init_9 : decode cX9_init 9 = .ok (.invokespecial 9, 3) := by decide +kernel
theorem dX9_init_12 : decode cX9_init 12 = .ok (.putfield 10, 3) := by decide +kernel
theorem dX9_init_15 : decode cX9_init 15 = .ok (.aload_n 0, 1) := by decide +kernel
theorem dX9_init_16 : decode cX9_init 16 = .ok (.new 16, 3) := by decide +kernel
theorem dX9_init_19 : decode cX9_init 19 = .ok (.dup, 1) := by decide +kernel
theorem dX9_init_20 : decode cX9_init 20 = .ok (.invokespecial 18, 3) := by decide +kernel
theorem dX9_init_23 : decode cX9_init 23 = .ok (.putfield 19, 3) := by decide +kernel
theorem dX9_init_26 : decode cX9_init 26 = .ok (.aload_n 0, 1) := by decide +kernel
theorem dX9_init_27 : decode cX9_init 27 = .ok (.iconst 2, 1) := by decide +kernel
theorem dX9_init_28 : decode cX9_init 28 = .ok (.anewarray 16, 3) := by decide +kernel
theorem dX9_init_31 : decode cX9_init 31 = .ok (.dup, 1) := by decide +kernel
theorem dX9_init_32 : decode cX9_init 32 = .ok (.iconst 0, 1) := by decide +kernel
theorem dX9_init_33 : decode cX9_init 33 = .ok (.new 16, 3) := by decide +kernel
theorem dX9_init_36 : decode cX9_init 36 = .ok (.dup, 1) := by decide +kernel
theorem dX9_init_37 : decode cX9_init 37 = .ok (.invokespecial 18, 3) := by decide +kernel
theorem dX9_init_40 : decode cX9_init 40 = .ok (.aastore, 1) := by decide +kernel
theorem dX9_init_41 : decode cX9_init 41 = .ok (.dup, 1) := by decide +kernel
theorem dX9_init_42 : decode cX9_init 42 = .ok (.iconst 1, 1) := by decide +kernel
theorem dX9_init_43 : decode cX9_init 43 = .ok (.new 16, 3) := by decide +kernel
theorem dX9_init_46 : decode cX9_init 46 = .ok (.dup, 1) := by decide +kernel
theorem dX9_init_47 : decode cX9_init 47 = .ok (.invokespecial 18, 3) := by decide +kernel
theorem dX9_init_50 : decode cX9_init 50 = .ok (.aastore, 1) := by decide +kernel
theorem dX9_init_51 : decode cX9_init 51 = .ok (.putfield 23, 3) := by decide +kernel
theorem dX9_init_54 : decode cX9_init 54 = .ok (.aload_n 0, 1) := by decide +kernel
theorem dX9_init_55 : decode cX9_init 55 = .ok (.iconst 2, 1) := by decide +kernel
theorem dX9_init_56 : decode cX9_init 56 = .ok (.newarray .boolean, 2) := by decide +kernel
theorem dX9_init_58 : decode cX9_init 58 = .ok (.putfield 27, 3) := by decide +kernel
theorem dX9_init_61 : decode cX9_init 61 = .ok (.aload_n 0, 1) := by decide +kernel
theorem dX9_init_62 : decode cX9_init 62 = .ok (.new 31, 3) := by decide +kernel
theorem dX9_init_65 : decode cX9_init 65 = .ok (.dup, 1) := by decide +kernel
theorem dX9_init_66 : decode cX9_init 66 = .ok (.invokespecial 33, 3) := by decide +kernel
theorem dX9_init_69 : decode cX9_init 69 = .ok (.putfield 34, 3) := by decide +kernel
theorem dX9_init_72 : decode cX9_init 72 = .ok (.aload_n 0, 1) := by decide +kernel
theorem dX9_init_73 : decode cX9_init 73 = .ok (.new 38, 3) := by decide +kernel
theorem dX9_init_76 : decode cX9_init 76 = .ok (.dup, 1) := by decide +kernel
theorem dX9_init_77 : decode cX9_init 77 = .ok (.invokespecial 40, 3) := by decide +kernel
theorem dX9_init_80 : decode cX9_init 80 = .ok (.putfield 41, 3) := by decide +kernel
theorem dX9_init_83 : decode cX9_init 83 = .ok (.aload_n 0, 1) := by decide +kernel
theorem dX9_init_84 : decode cX9_init 84 = .ok (.new 45, 3) := by decide +kernel
theorem dX9_init_87 : decode cX9_init 87 = .ok (.dup, 1) := by decide +kernel
theorem dX9_init_88 : decode cX9_init 88 = .ok (.invokespecial 47, 3) := by decide +kernel
theorem dX9_init_91 : decode cX9_init 91 = .ok (.putfield 48, 3) := by decide +kernel
theorem dX9_init_94 : decode cX9_init 94 = .ok (.aload_n 0, 1) := by decide +kernel
theorem dX9_init_95 : decode cX9_init 95 = .ok (.new 52, 3) := by decide +kernel
theorem dX9_init_98 : decode cX9_init 98 = .ok (.dup, 1) := by decide +kernel
theorem dX9_init_99 : decode cX9_init 99 = .ok (.invokespecial 54, 3) := by decide +kernel
theorem dX9_init_102 : decode cX9_init 102 = .ok (.putfield 55, 3) := by decide +kernel
theorem dX9_init_105 : decode cX9_init 105 = .ok (.aload_n 0, 1) := by decide +kernel
theorem dX9_init_106 : decode cX9_init 106 = .ok (.new 52, 3) := by decide +kernel
theorem dX9_init_109 : decode cX9_init 109 = .ok (.dup, 1) := by decide +kernel
theorem dX9_init_110 : decode cX9_init 110 = .ok (.invokespecial 54, 3) := by decide +kernel
theorem dX9_init_113 : decode cX9_init 113 = .ok (.putfield 59, 3) := by decide +kernel
theorem dX9_init_116 : decode cX9_init 116 = .ok (.aload_n 0, 1) := by decide +kernel
theorem dX9_init_117 : decode cX9_init 117 = .ok (.iconst (-1), 1) := by decide +kernel
theorem dX9_init_118 : decode cX9_init 118 = .ok (.putfield 62, 3) := by decide +kernel
theorem dX9_init_121 : decode cX9_init 121 = .ok (.return_, 1) := by decide +kernel
theorem dX9_feed_0 : decode cX9_feed 0 = .ok (.iload_n 1, 1) := by decide +kernel
theorem dX9_feed_1 : decode cX9_feed 1 = .ok (.iconst 0, 1) := by decide +kernel
theorem dX9_feed_2 : decode cX9_feed 2 = .ok (.sipush 255, 3) := by decide +kernel
theorem dX9_feed_5 : decode cX9_feed 5 = .ok (.invokestatic 66, 3) := by decide +kernel
theorem dX9_feed_8 : decode cX9_feed 8 = .ok (.ifCond .ne 6, 3) := by decide +kernel
theorem dX9_feed_11 : decode cX9_feed 11 = .ok (.ldc 70, 2) := by decide +kernel
theorem dX9_feed_13 : decode cX9_feed 13 = .ok (.ireturn, 1) := by decide +kernel
theorem dX9_feed_14 : decode cX9_feed 14 = .ok (.aload_n 0, 1) := by decide +kernel
theorem dX9_feed_15 : decode cX9_feed 15 = .ok (.getfield 10, 3) := by decide +kernel
theorem dX9_feed_18 : decode cX9_feed 18 = .ok (.iload_n 1, 1) := by decide +kernel
theorem dX9_feed_19 : decode cX9_feed 19 = .ok (.invokevirtual 71, 3) := by decide +kernel
theorem dX9_feed_22 : decode cX9_feed 22 = .ok (.ireturn, 1) := by decide +kernel
theorem dX9_picture_0 : decode cX9_picture 0 = .ok (.aload_n 0, 1) := by decide +kernel
theorem dX9_picture_1 : decode cX9_picture 1 = .ok (.getfield 10, 3) := by decide +kernel
theorem dX9_picture_4 : decode cX9_picture 4 = .ok (.aload_n 0, 1) := by decide +kernel
theorem dX9_picture_5 : decode cX9_picture 5 = .ok (.getfield 55, 3) := by decide +kernel
theorem dX9_picture_8 : decode cX9_picture 8 = .ok (.invokevirtual 75, 3) := by decide +kernel
theorem dX9_picture_11 : decode cX9_picture 11 = .ok (.istore_n 1, 1) := by decide +kernel
theorem dX9_picture_12 : decode cX9_picture 12 = .ok (.aload_n 0, 1) := by decide +kernel
theorem dX9_picture_13 : decode cX9_picture 13 = .ok (.iload_n 1, 1) := by decide +kernel
theorem dX9_picture_14 : decode cX9_picture 14 = .ok (.ifCond .ne 7, 3) := by decide +kernel
theorem dX9_picture_17 : decode cX9_picture 17 = .ok (.iconst (-1), 1) := by decide +kernel
theorem dX9_picture_18 : decode cX9_picture 18 = .ok (.goto 10, 3) := by decide +kernel
theorem dX9_picture_21 : decode cX9_picture 21 = .ok (.aload_n 0, 1) := by decide +kernel
theorem dX9_picture_22 : decode cX9_picture 22 = .ok (.getfield 10, 3) := by decide +kernel
theorem dX9_picture_25 : decode cX9_picture 25 = .ok (.invokevirtual 79, 3) := by decide +kernel
theorem dX9_picture_28 : decode cX9_picture 28 = .ok (.putfield 62, 3) := by decide +kernel
theorem dX9_picture_31 : decode cX9_picture 31 = .ok (.aload_n 0, 1) := by decide +kernel
theorem dX9_picture_32 : decode cX9_picture 32 = .ok (.getfield 10, 3) := by decide +kernel
theorem dX9_picture_35 : decode cX9_picture 35 = .ok (.invokevirtual 83, 3) := by decide +kernel
theorem dX9_picture_38 : decode cX9_picture 38 = .ok (.iload_n 1, 1) := by decide +kernel
theorem dX9_picture_39 : decode cX9_picture 39 = .ok (.ifCond .eq 8, 3) := by decide +kernel
theorem dX9_picture_42 : decode cX9_picture 42 = .ok (.bipush (-10), 2) := by decide +kernel
theorem dX9_picture_44 : decode cX9_picture 44 = .ok (.iload_n 1, 1) := by decide +kernel
theorem dX9_picture_45 : decode cX9_picture 45 = .ok (.isub, 1) := by decide +kernel
theorem dX9_picture_46 : decode cX9_picture 46 = .ok (.ireturn, 1) := by decide +kernel
theorem dX9_picture_47 : decode cX9_picture 47 = .ok (.aload_n 0, 1) := by decide +kernel
theorem dX9_picture_48 : decode cX9_picture 48 = .ok (.getfield 34, 3) := by decide +kernel
theorem dX9_picture_51 : decode cX9_picture 51 = .ok (.aload_n 0, 1) := by decide +kernel
theorem dX9_picture_52 : decode cX9_picture 52 = .ok (.getfield 19, 3) := by decide +kernel
theorem dX9_picture_55 : decode cX9_picture 55 = .ok (.getfield 86, 3) := by decide +kernel
theorem dX9_picture_58 : decode cX9_picture 58 = .ok (.invokevirtual 89, 3) := by decide +kernel
theorem dX9_picture_61 : decode cX9_picture 61 = .ok (.aload_n 0, 1) := by decide +kernel
theorem dX9_picture_62 : decode cX9_picture 62 = .ok (.getfield 19, 3) := by decide +kernel
theorem dX9_picture_65 : decode cX9_picture 65 = .ok (.getfield 86, 3) := by decide +kernel
theorem dX9_picture_68 : decode cX9_picture 68 = .ok (.aload_n 0, 1) := by decide +kernel
theorem dX9_picture_69 : decode cX9_picture 69 = .ok (.getfield 55, 3) := by decide +kernel
theorem dX9_picture_72 : decode cX9_picture 72 = .ok (.invokevirtual 93, 3) := by decide +kernel
theorem dX9_picture_75 : decode cX9_picture 75 = .ok (.aload_n 0, 1) := by decide +kernel
theorem dX9_picture_76 : decode cX9_picture 76 = .ok (.getfield 19, 3) := by decide +kernel
theorem dX9_picture_79 : decode cX9_picture 79 = .ok (.getfield 86, 3) := by decide +kernel
theorem dX9_picture_82 : decode cX9_picture 82 = .ok (.invokevirtual 96, 3) := by decide +kernel
theorem dX9_picture_85 : decode cX9_picture 85 = .ok (.ireturn, 1) := by decide +kernel
theorem dX9_fault_0 : decode cX9_fault 0 = .ok (.aload_n 0, 1) := by decide +kernel
theorem dX9_fault_1 : decode cX9_fault 1 = .ok (.getfield 62, 3) := by decide +kernel
theorem dX9_fault_4 : decode cX9_fault 4 = .ok (.ireturn, 1) := by decide +kernel
theorem dX9_told_0 : decode cX9_told 0 = .ok (.iload_n 1, 1) := by decide +kernel
theorem dX9_told_1 : decode cX9_told 1 = .ok (.tableswitch 187 0 11 #[63, 74, 85, 96, 107, 118, 129, 137, 148, 156, 164, 179], 63) := by decide +kernel
theorem dX9_told_64 : decode cX9_told 64 = .ok (.aload_n 0, 1) := by decide +kernel
theorem dX9_told_65 : decode cX9_told 65 = .ok (.getfield 19, 3) := by decide +kernel
theorem dX9_told_68 : decode cX9_told 68 = .ok (.getfield 86, 3) := by decide +kernel
theorem dX9_told_71 : decode cX9_told 71 = .ok (.getfield 99, 3) := by decide +kernel
theorem dX9_told_74 : decode cX9_told 74 = .ok (.ireturn, 1) := by decide +kernel
theorem dX9_told_75 : decode cX9_told 75 = .ok (.aload_n 0, 1) := by decide +kernel
theorem dX9_told_76 : decode cX9_told 76 = .ok (.getfield 19, 3) := by decide +kernel
theorem dX9_told_79 : decode cX9_told 79 = .ok (.getfield 86, 3) := by decide +kernel
theorem dX9_told_82 : decode cX9_told 82 = .ok (.getfield 102, 3) := by decide +kernel
theorem dX9_told_85 : decode cX9_told 85 = .ok (.ireturn, 1) := by decide +kernel
theorem dX9_told_86 : decode cX9_told 86 = .ok (.aload_n 0, 1) := by decide +kernel
theorem dX9_told_87 : decode cX9_told 87 = .ok (.getfield 19, 3) := by decide +kernel
theorem dX9_told_90 : decode cX9_told 90 = .ok (.getfield 86, 3) := by decide +kernel
theorem dX9_told_93 : decode cX9_told 93 = .ok (.invokevirtual 105, 3) := by decide +kernel
theorem dX9_told_96 : decode cX9_told 96 = .ok (.ireturn, 1) := by decide +kernel
theorem dX9_told_97 : decode cX9_told 97 = .ok (.aload_n 0, 1) := by decide +kernel
theorem dX9_told_98 : decode cX9_told 98 = .ok (.getfield 19, 3) := by decide +kernel
theorem dX9_told_101 : decode cX9_told 101 = .ok (.getfield 86, 3) := by decide +kernel
theorem dX9_told_104 : decode cX9_told 104 = .ok (.invokevirtual 108, 3) := by decide +kernel
theorem dX9_told_107 : decode cX9_told 107 = .ok (.ireturn, 1) := by decide +kernel
theorem dX9_told_108 : decode cX9_told 108 = .ok (.aload_n 0, 1) := by decide +kernel
theorem dX9_told_109 : decode cX9_told 109 = .ok (.getfield 19, 3) := by decide +kernel
theorem dX9_told_112 : decode cX9_told 112 = .ok (.getfield 86, 3) := by decide +kernel
theorem dX9_told_115 : decode cX9_told 115 = .ok (.invokevirtual 111, 3) := by decide +kernel
theorem dX9_told_118 : decode cX9_told 118 = .ok (.ireturn, 1) := by decide +kernel
theorem dX9_told_119 : decode cX9_told 119 = .ok (.aload_n 0, 1) := by decide +kernel
theorem dX9_told_120 : decode cX9_told 120 = .ok (.getfield 19, 3) := by decide +kernel
theorem dX9_told_123 : decode cX9_told 123 = .ok (.getfield 86, 3) := by decide +kernel
theorem dX9_told_126 : decode cX9_told 126 = .ok (.invokevirtual 114, 3) := by decide +kernel
theorem dX9_told_129 : decode cX9_told 129 = .ok (.ireturn, 1) := by decide +kernel
theorem dX9_told_130 : decode cX9_told 130 = .ok (.aload_n 0, 1) := by decide +kernel
theorem dX9_told_131 : decode cX9_told 131 = .ok (.getfield 10, 3) := by decide +kernel
theorem dX9_told_134 : decode cX9_told 134 = .ok (.getfield 117, 3) := by decide +kernel
theorem dX9_told_137 : decode cX9_told 137 = .ok (.ireturn, 1) := by decide +kernel
theorem dX9_told_138 : decode cX9_told 138 = .ok (.aload_n 0, 1) := by decide +kernel
theorem dX9_told_139 : decode cX9_told 139 = .ok (.getfield 19, 3) := by decide +kernel
theorem dX9_told_142 : decode cX9_told 142 = .ok (.getfield 120, 3) := by decide +kernel
theorem dX9_told_145 : decode cX9_told 145 = .ok (.getfield 124, 3) := by decide +kernel
theorem dX9_told_148 : decode cX9_told 148 = .ok (.ireturn, 1) := by decide +kernel
theorem dX9_told_149 : decode cX9_told 149 = .ok (.aload_n 0, 1) := by decide +kernel
theorem dX9_told_150 : decode cX9_told 150 = .ok (.getfield 19, 3) := by decide +kernel
theorem dX9_told_153 : decode cX9_told 153 = .ok (.getfield 129, 3) := by decide +kernel
theorem dX9_told_156 : decode cX9_told 156 = .ok (.ireturn, 1) := by decide +kernel
theorem dX9_told_157 : decode cX9_told 157 = .ok (.aload_n 0, 1) := by decide +kernel
theorem dX9_told_158 : decode cX9_told 158 = .ok (.getfield 41, 3) := by decide +kernel
theorem dX9_told_161 : decode cX9_told 161 = .ok (.getfield 132, 3) := by decide +kernel
theorem dX9_told_164 : decode cX9_told 164 = .ok (.ireturn, 1) := by decide +kernel
theorem dX9_told_165 : decode cX9_told 165 = .ok (.aload_n 0, 1) := by decide +kernel
theorem dX9_told_166 : decode cX9_told 166 = .ok (.getfield 41, 3) := by decide +kernel
theorem dX9_told_169 : decode cX9_told 169 = .ok (.aload_n 0, 1) := by decide +kernel
theorem dX9_told_170 : decode cX9_told 170 = .ok (.getfield 19, 3) := by decide +kernel
theorem dX9_told_173 : decode cX9_told 173 = .ok (.getfield 86, 3) := by decide +kernel
theorem dX9_told_176 : decode cX9_told 176 = .ok (.invokevirtual 133, 3) := by decide +kernel
theorem dX9_told_179 : decode cX9_told 179 = .ok (.ireturn, 1) := by decide +kernel
theorem dX9_told_180 : decode cX9_told 180 = .ok (.aload_n 0, 1) := by decide +kernel
theorem dX9_told_181 : decode cX9_told 181 = .ok (.getfield 34, 3) := by decide +kernel
theorem dX9_told_184 : decode cX9_told 184 = .ok (.getfield 136, 3) := by decide +kernel
theorem dX9_told_187 : decode cX9_told 187 = .ok (.ireturn, 1) := by decide +kernel
theorem dX9_told_188 : decode cX9_told 188 = .ok (.ldc 70, 2) := by decide +kernel
theorem dX9_told_190 : decode cX9_told 190 = .ok (.ireturn, 1) := by decide +kernel
theorem dX9_at_0 : decode cX9_at 0 = .ok (.aload_n 0, 1) := by decide +kernel
theorem dX9_at_1 : decode cX9_at 1 = .ok (.getfield 19, 3) := by decide +kernel
theorem dX9_at_4 : decode cX9_at 4 = .ok (.getfield 86, 3) := by decide +kernel
theorem dX9_at_7 : decode cX9_at 7 = .ok (.iload_n 1, 1) := by decide +kernel
theorem dX9_at_8 : decode cX9_at 8 = .ok (.iload_n 2, 1) := by decide +kernel
theorem dX9_at_9 : decode cX9_at 9 = .ok (.invokevirtual 137, 3) := by decide +kernel
theorem dX9_at_12 : decode cX9_at 12 = .ok (.ifCond .ne 6, 3) := by decide +kernel
theorem dX9_at_15 : decode cX9_at 15 = .ok (.ldc 141, 2) := by decide +kernel
theorem dX9_at_17 : decode cX9_at 17 = .ok (.ireturn, 1) := by decide +kernel
theorem dX9_at_18 : decode cX9_at 18 = .ok (.iload_n 3, 1) := by decide +kernel
theorem dX9_at_19 : decode cX9_at 19 = .ok (.lookupswitch 59 #[(0, 25), (1, 38)], 25) := by decide +kernel
theorem dX9_at_44 : decode cX9_at 44 = .ok (.aload_n 0, 1) := by decide +kernel
theorem dX9_at_45 : decode cX9_at 45 = .ok (.getfield 19, 3) := by decide +kernel
theorem dX9_at_48 : decode cX9_at 48 = .ok (.getfield 86, 3) := by decide +kernel
theorem dX9_at_51 : decode cX9_at 51 = .ok (.iload_n 1, 1) := by decide +kernel
theorem dX9_at_52 : decode cX9_at 52 = .ok (.iload_n 2, 1) := by decide +kernel
theorem dX9_at_53 : decode cX9_at 53 = .ok (.invokevirtual 142, 3) := by decide +kernel
theorem dX9_at_56 : decode cX9_at 56 = .ok (.ireturn, 1) := by decide +kernel
theorem dX9_at_57 : decode cX9_at 57 = .ok (.aload_n 0, 1) := by decide +kernel
theorem dX9_at_58 : decode cX9_at 58 = .ok (.getfield 19, 3) := by decide +kernel
theorem dX9_at_61 : decode cX9_at 61 = .ok (.getfield 86, 3) := by decide +kernel
theorem dX9_at_64 : decode cX9_at 64 = .ok (.iload_n 1, 1) := by decide +kernel
theorem dX9_at_65 : decode cX9_at 65 = .ok (.iload_n 2, 1) := by decide +kernel
theorem dX9_at_66 : decode cX9_at 66 = .ok (.invokevirtual 146, 3) := by decide +kernel
theorem dX9_at_69 : decode cX9_at 69 = .ok (.ifCond .eq 7, 3) := by decide +kernel
theorem dX9_at_72 : decode cX9_at 72 = .ok (.iconst 1, 1) := by decide +kernel
theorem dX9_at_73 : decode cX9_at 73 = .ok (.goto 4, 3) := by decide +kernel
theorem dX9_at_76 : decode cX9_at 76 = .ok (.iconst 0, 1) := by decide +kernel
theorem dX9_at_77 : decode cX9_at 77 = .ok (.ireturn, 1) := by decide +kernel
theorem dX9_at_78 : decode cX9_at 78 = .ok (.ldc 70, 2) := by decide +kernel
theorem dX9_at_80 : decode cX9_at 80 = .ok (.ireturn, 1) := by decide +kernel
theorem dX9_tally_0 : decode cX9_tally 0 = .ok (.aload_n 0, 1) := by decide +kernel
theorem dX9_tally_1 : decode cX9_tally 1 = .ok (.getfield 19, 3) := by decide +kernel
theorem dX9_tally_4 : decode cX9_tally 4 = .ok (.getfield 86, 3) := by decide +kernel
theorem dX9_tally_7 : decode cX9_tally 7 = .ok (.iload_n 1, 1) := by decide +kernel
theorem dX9_tally_8 : decode cX9_tally 8 = .ok (.iload_n 2, 1) := by decide +kernel
theorem dX9_tally_9 : decode cX9_tally 9 = .ok (.invokevirtual 137, 3) := by decide +kernel
theorem dX9_tally_12 : decode cX9_tally 12 = .ok (.ifCond .eq 19, 3) := by decide +kernel
theorem dX9_tally_15 : decode cX9_tally 15 = .ok (.aload_n 0, 1) := by decide +kernel
theorem dX9_tally_16 : decode cX9_tally 16 = .ok (.getfield 19, 3) := by decide +kernel
theorem dX9_tally_19 : decode cX9_tally 19 = .ok (.getfield 86, 3) := by decide +kernel
theorem dX9_tally_22 : decode cX9_tally 22 = .ok (.iload_n 3, 1) := by decide +kernel
theorem dX9_tally_23 : decode cX9_tally 23 = .ok (.iload 4, 2) := by decide +kernel
theorem dX9_tally_25 : decode cX9_tally 25 = .ok (.invokevirtual 137, 3) := by decide +kernel
theorem dX9_tally_28 : decode cX9_tally 28 = .ok (.ifCond .ne 6, 3) := by decide +kernel
theorem dX9_tally_31 : decode cX9_tally 31 = .ok (.ldc 141, 2) := by decide +kernel
theorem dX9_tally_33 : decode cX9_tally 33 = .ok (.ireturn, 1) := by decide +kernel
theorem dX9_tally_34 : decode cX9_tally 34 = .ok (.iload_n 3, 1) := by decide +kernel
theorem dX9_tally_35 : decode cX9_tally 35 = .ok (.iload_n 1, 1) := by decide +kernel
theorem dX9_tally_36 : decode cX9_tally 36 = .ok (.if_icmp .lt 21, 3) := by decide +kernel
theorem dX9_tally_39 : decode cX9_tally 39 = .ok (.iload 4, 2) := by decide +kernel
theorem dX9_tally_41 : decode cX9_tally 41 = .ok (.iload_n 2, 1) := by decide +kernel
theorem dX9_tally_42 : decode cX9_tally 42 = .ok (.if_icmp .lt 15, 3) := by decide +kernel
theorem dX9_tally_45 : decode cX9_tally 45 = .ok (.iload 5, 2) := by decide +kernel
theorem dX9_tally_47 : decode cX9_tally 47 = .ok (.iconst (-1), 1) := by decide +kernel
theorem dX9_tally_48 : decode cX9_tally 48 = .ok (.sipush 256, 3) := by decide +kernel
theorem dX9_tally_51 : decode cX9_tally 51 = .ok (.invokestatic 66, 3) := by decide +kernel
theorem dX9_tally_54 : decode cX9_tally 54 = .ok (.ifCond .ne 6, 3) := by decide +kernel
theorem dX9_tally_57 : decode cX9_tally 57 = .ok (.ldc 70, 2) := by decide +kernel
theorem dX9_tally_59 : decode cX9_tally 59 = .ok (.ireturn, 1) := by decide +kernel
theorem dX9_tally_60 : decode cX9_tally 60 = .ok (.aload_n 0, 1) := by decide +kernel
theorem dX9_tally_61 : decode cX9_tally 61 = .ok (.getfield 19, 3) := by decide +kernel
theorem dX9_tally_64 : decode cX9_tally 64 = .ok (.getfield 86, 3) := by decide +kernel
theorem dX9_tally_67 : decode cX9_tally 67 = .ok (.iload_n 1, 1) := by decide +kernel
theorem dX9_tally_68 : decode cX9_tally 68 = .ok (.iload_n 2, 1) := by decide +kernel
theorem dX9_tally_69 : decode cX9_tally 69 = .ok (.iload_n 3, 1) := by decide +kernel
theorem dX9_tally_70 : decode cX9_tally 70 = .ok (.iload 4, 2) := by decide +kernel
theorem dX9_tally_72 : decode cX9_tally 72 = .ok (.iload 5, 2) := by decide +kernel
theorem dX9_tally_74 : decode cX9_tally 74 = .ok (.invokevirtual 149, 3) := by decide +kernel
theorem dX9_tally_77 : decode cX9_tally 77 = .ok (.ireturn, 1) := by decide +kernel
theorem dX9_filter_0 : decode cX9_filter 0 = .ok (.iload_n 1, 1) := by decide +kernel
theorem dX9_filter_1 : decode cX9_filter 1 = .ok (.iconst 0, 1) := by decide +kernel
theorem dX9_filter_2 : decode cX9_filter 2 = .ok (.iconst 4, 1) := by decide +kernel
theorem dX9_filter_3 : decode cX9_filter 3 = .ok (.invokestatic 66, 3) := by decide +kernel
theorem dX9_filter_6 : decode cX9_filter 6 = .ok (.ifCond .eq 22, 3) := by decide +kernel
theorem dX9_filter_9 : decode cX9_filter 9 = .ok (.iload_n 2, 1) := by decide +kernel
theorem dX9_filter_10 : decode cX9_filter 10 = .ok (.iconst 0, 1) := by decide +kernel
theorem dX9_filter_11 : decode cX9_filter 11 = .ok (.iconst 4, 1) := by decide +kernel
theorem dX9_filter_12 : decode cX9_filter 12 = .ok (.invokestatic 66, 3) := by decide +kernel
theorem dX9_filter_15 : decode cX9_filter 15 = .ok (.ifCond .eq 13, 3) := by decide +kernel
theorem dX9_filter_18 : decode cX9_filter 18 = .ok (.iload_n 3, 1) := by decide +kernel
theorem dX9_filter_19 : decode cX9_filter 19 = .ok (.iconst 0, 1) := by decide +kernel
theorem dX9_filter_20 : decode cX9_filter 20 = .ok (.bipush 100, 2) := by decide +kernel
theorem dX9_filter_22 : decode cX9_filter 22 = .ok (.invokestatic 66, 3) := by decide +kernel
theorem dX9_filter_25 : decode cX9_filter 25 = .ok (.ifCond .ne 6, 3) := by decide +kernel
theorem dX9_filter_28 : decode cX9_filter 28 = .ok (.ldc 70, 2) := by decide +kernel
theorem dX9_filter_30 : decode cX9_filter 30 = .ok (.ireturn, 1) := by decide +kernel
theorem dX9_filter_31 : decode cX9_filter 31 = .ok (.iload 4, 2) := by decide +kernel
theorem dX9_filter_33 : decode cX9_filter 33 = .ok (.iconst 0, 1) := by decide +kernel
theorem dX9_filter_34 : decode cX9_filter 34 = .ok (.iconst 4, 1) := by decide +kernel
theorem dX9_filter_35 : decode cX9_filter 35 = .ok (.invokestatic 66, 3) := by decide +kernel
theorem dX9_filter_38 : decode cX9_filter 38 = .ok (.ifCond .eq 14, 3) := by decide +kernel
theorem dX9_filter_41 : decode cX9_filter 41 = .ok (.iload 5, 2) := by decide +kernel
theorem dX9_filter_43 : decode cX9_filter 43 = .ok (.iconst 1, 1) := by decide +kernel
theorem dX9_filter_44 : decode cX9_filter 44 = .ok (.bipush 9, 2) := by decide +kernel
theorem dX9_filter_46 : decode cX9_filter 46 = .ok (.invokestatic 66, 3) := by decide +kernel
theorem dX9_filter_49 : decode cX9_filter 49 = .ok (.ifCond .ne 6, 3) := by decide +kernel
theorem dX9_filter_52 : decode cX9_filter 52 = .ok (.ldc 70, 2) := by decide +kernel
theorem dX9_filter_54 : decode cX9_filter 54 = .ok (.ireturn, 1) := by decide +kernel
theorem dX9_filter_55 : decode cX9_filter 55 = .ok (.aload_n 0, 1) := by decide +kernel
theorem dX9_filter_56 : decode cX9_filter 56 = .ok (.getfield 19, 3) := by decide +kernel
theorem dX9_filter_59 : decode cX9_filter 59 = .ok (.getfield 120, 3) := by decide +kernel
theorem dX9_filter_62 : decode cX9_filter 62 = .ok (.invokevirtual 153, 3) := by decide +kernel
theorem dX9_filter_65 : decode cX9_filter 65 = .ok (.ifCond .eq 6, 3) := by decide +kernel
theorem dX9_filter_68 : decode cX9_filter 68 = .ok (.ldc 157, 2) := by decide +kernel
theorem dX9_filter_70 : decode cX9_filter 70 = .ok (.ireturn, 1) := by decide +kernel
theorem dX9_filter_71 : decode cX9_filter 71 = .ok (.aload_n 0, 1) := by decide +kernel
theorem dX9_filter_72 : decode cX9_filter 72 = .ok (.getfield 19, 3) := by decide +kernel
theorem dX9_filter_75 : decode cX9_filter 75 = .ok (.getfield 120, 3) := by decide +kernel
theorem dX9_filter_78 : decode cX9_filter 78 = .ok (.new 158, 3) := by decide +kernel
theorem dX9_filter_81 : decode cX9_filter 81 = .ok (.dup, 1) := by decide +kernel
theorem dX9_filter_82 : decode cX9_filter 82 = .ok (.iload_n 1, 1) := by decide +kernel
theorem dX9_filter_83 : decode cX9_filter 83 = .ok (.iload_n 2, 1) := by decide +kernel
theorem dX9_filter_84 : decode cX9_filter 84 = .ok (.iload_n 3, 1) := by decide +kernel
theorem dX9_filter_85 : decode cX9_filter 85 = .ok (.iload 4, 2) := by decide +kernel
theorem dX9_filter_87 : decode cX9_filter 87 = .ok (.iload 5, 2) := by decide +kernel
theorem dX9_filter_89 : decode cX9_filter 89 = .ok (.invokespecial 160, 3) := by decide +kernel
theorem dX9_filter_92 : decode cX9_filter 92 = .ok (.invokevirtual 163, 3) := by decide +kernel
theorem dX9_filter_95 : decode cX9_filter 95 = .ok (.ireturn, 1) := by decide +kernel
theorem dX9_drop_0 : decode cX9_drop 0 = .ok (.aload_n 0, 1) := by decide +kernel
theorem dX9_drop_1 : decode cX9_drop 1 = .ok (.getfield 19, 3) := by decide +kernel
theorem dX9_drop_4 : decode cX9_drop 4 = .ok (.getfield 120, 3) := by decide +kernel
theorem dX9_drop_7 : decode cX9_drop 7 = .ok (.iload_n 1, 1) := by decide +kernel
theorem dX9_drop_8 : decode cX9_drop 8 = .ok (.invokevirtual 167, 3) := by decide +kernel
theorem dX9_drop_11 : decode cX9_drop 11 = .ok (.ifnonnull 6, 3) := by decide +kernel
theorem dX9_drop_14 : decode cX9_drop 14 = .ok (.ldc 141, 2) := by decide +kernel
theorem dX9_drop_16 : decode cX9_drop 16 = .ok (.ireturn, 1) := by decide +kernel
theorem dX9_drop_17 : decode cX9_drop 17 = .ok (.aload_n 0, 1) := by decide +kernel
theorem dX9_drop_18 : decode cX9_drop 18 = .ok (.getfield 19, 3) := by decide +kernel
theorem dX9_drop_21 : decode cX9_drop 21 = .ok (.getfield 120, 3) := by decide +kernel
theorem dX9_drop_24 : decode cX9_drop 24 = .ok (.iload_n 1, 1) := by decide +kernel
theorem dX9_drop_25 : decode cX9_drop 25 = .ok (.invokevirtual 171, 3) := by decide +kernel
theorem dX9_drop_28 : decode cX9_drop 28 = .ok (.ireturn, 1) := by decide +kernel
theorem dX9_fill_0 : decode cX9_fill 0 = .ok (.iload_n 1, 1) := by decide +kernel
theorem dX9_fill_1 : decode cX9_fill 1 = .ok (.iconst 0, 1) := by decide +kernel
theorem dX9_fill_2 : decode cX9_fill 2 = .ok (.sipush 255, 3) := by decide +kernel
theorem dX9_fill_5 : decode cX9_fill 5 = .ok (.invokestatic 66, 3) := by decide +kernel
theorem dX9_fill_8 : decode cX9_fill 8 = .ok (.ifCond .ne 6, 3) := by decide +kernel
theorem dX9_fill_11 : decode cX9_fill 11 = .ok (.ldc 70, 2) := by decide +kernel
theorem dX9_fill_13 : decode cX9_fill 13 = .ok (.ireturn, 1) := by decide +kernel
theorem dX9_fill_14 : decode cX9_fill 14 = .ok (.aload_n 0, 1) := by decide +kernel
theorem dX9_fill_15 : decode cX9_fill 15 = .ok (.getfield 19, 3) := by decide +kernel
theorem dX9_fill_18 : decode cX9_fill 18 = .ok (.getfield 129, 3) := by decide +kernel
theorem dX9_fill_21 : decode cX9_fill 21 = .ok (.istore_n 2, 1) := by decide +kernel
theorem dX9_fill_22 : decode cX9_fill 22 = .ok (.aload_n 0, 1) := by decide +kernel
theorem dX9_fill_23 : decode cX9_fill 23 = .ok (.getfield 19, 3) := by decide +kernel
theorem dX9_fill_26 : decode cX9_fill 26 = .ok (.iload_n 1, 1) := by decide +kernel
theorem dX9_fill_27 : decode cX9_fill 27 = .ok (.putfield 129, 3) := by decide +kernel
theorem dX9_fill_30 : decode cX9_fill 30 = .ok (.iload_n 2, 1) := by decide +kernel
theorem dX9_fill_31 : decode cX9_fill 31 = .ok (.ireturn, 1) := by decide +kernel
theorem dX9_would_0 : decode cX9_would 0 = .ok (.aload_n 0, 1) := by decide +kernel
theorem dX9_would_1 : decode cX9_would 1 = .ok (.getfield 19, 3) := by decide +kernel
theorem dX9_would_4 : decode cX9_would 4 = .ok (.getfield 120, 3) := by decide +kernel
theorem dX9_would_7 : decode cX9_would 7 = .ok (.iload_n 1, 1) := by decide +kernel
theorem dX9_would_8 : decode cX9_would 8 = .ok (.invokevirtual 167, 3) := by decide +kernel
theorem dX9_would_11 : decode cX9_would 11 = .ok (.astore 5, 2) := by decide +kernel
theorem dX9_would_13 : decode cX9_would 13 = .ok (.aload 5, 2) := by decide +kernel
theorem dX9_would_15 : decode cX9_would 15 = .ok (.ifnull 18, 3) := by decide +kernel
theorem dX9_would_18 : decode cX9_would 18 = .ok (.aload_n 0, 1) := by decide +kernel
theorem dX9_would_19 : decode cX9_would 19 = .ok (.getfield 19, 3) := by decide +kernel
theorem dX9_would_22 : decode cX9_would 22 = .ok (.getfield 86, 3) := by decide +kernel
theorem dX9_would_25 : decode cX9_would 25 = .ok (.iload_n 2, 1) := by decide +kernel
theorem dX9_would_26 : decode cX9_would 26 = .ok (.iload_n 3, 1) := by decide +kernel
theorem dX9_would_27 : decode cX9_would 27 = .ok (.invokevirtual 137, 3) := by decide +kernel
theorem dX9_would_30 : decode cX9_would 30 = .ok (.ifCond .ne 6, 3) := by decide +kernel
theorem dX9_would_33 : decode cX9_would 33 = .ok (.ldc 141, 2) := by decide +kernel
theorem dX9_would_35 : decode cX9_would 35 = .ok (.ireturn, 1) := by decide +kernel
theorem dX9_would_36 : decode cX9_would 36 = .ok (.iload 4, 2) := by decide +kernel
theorem dX9_would_38 : decode cX9_would 38 = .ok (.iconst 0, 1) := by decide +kernel
theorem dX9_would_39 : decode cX9_would 39 = .ok (.iconst 3, 1) := by decide +kernel
theorem dX9_would_40 : decode cX9_would 40 = .ok (.invokestatic 66, 3) := by decide +kernel
theorem dX9_would_43 : decode cX9_would 43 = .ok (.ifCond .ne 6, 3) := by decide +kernel
theorem dX9_would_46 : decode cX9_would 46 = .ok (.ldc 70, 2) := by decide +kernel
theorem dX9_would_48 : decode cX9_would 48 = .ok (.ireturn, 1) := by decide +kernel
theorem dX9_would_49 : decode cX9_would 49 = .ok (.aload_n 0, 1) := by decide +kernel
theorem dX9_would_50 : decode cX9_would 50 = .ok (.getfield 48, 3) := by decide +kernel
theorem dX9_would_53 : decode cX9_would 53 = .ok (.aload_n 0, 1) := by decide +kernel
theorem dX9_would_54 : decode cX9_would 54 = .ok (.getfield 19, 3) := by decide +kernel
theorem dX9_would_57 : decode cX9_would 57 = .ok (.getfield 86, 3) := by decide +kernel
theorem dX9_would_60 : decode cX9_would 60 = .ok (.aload 5, 2) := by decide +kernel
theorem dX9_would_62 : decode cX9_would 62 = .ok (.aload_n 0, 1) := by decide +kernel
theorem dX9_would_63 : decode cX9_would 63 = .ok (.getfield 19, 3) := by decide +kernel
theorem dX9_would_66 : decode cX9_would 66 = .ok (.getfield 129, 3) := by decide +kernel
theorem dX9_would_69 : decode cX9_would 69 = .ok (.iload_n 2, 1) := by decide +kernel
theorem dX9_would_70 : decode cX9_would 70 = .ok (.iload_n 3, 1) := by decide +kernel
theorem dX9_would_71 : decode cX9_would 71 = .ok (.invokevirtual 174, 3) := by decide +kernel
theorem dX9_would_74 : decode cX9_would 74 = .ok (.iload 4, 2) := by decide +kernel
theorem dX9_would_76 : decode cX9_would 76 = .ok (.tableswitch 69 0 2 #[28, 41, 49], 28) := by decide +kernel
theorem dX9_would_104 : decode cX9_would 104 = .ok (.aload_n 0, 1) := by decide +kernel
theorem dX9_would_105 : decode cX9_would 105 = .ok (.getfield 48, 3) := by decide +kernel
theorem dX9_would_108 : decode cX9_would 108 = .ok (.aload 5, 2) := by decide +kernel
theorem dX9_would_110 : decode cX9_would 110 = .ok (.getfield 178, 3) := by decide +kernel
theorem dX9_would_113 : decode cX9_would 113 = .ok (.invokevirtual 181, 3) := by decide +kernel
theorem dX9_would_116 : decode cX9_would 116 = .ok (.ireturn, 1) := by decide +kernel
theorem dX9_would_117 : decode cX9_would 117 = .ok (.aload_n 0, 1) := by decide +kernel
theorem dX9_would_118 : decode cX9_would 118 = .ok (.getfield 48, 3) := by decide +kernel
theorem dX9_would_121 : decode cX9_would 121 = .ok (.getfield 184, 3) := by decide +kernel
theorem dX9_would_124 : decode cX9_would 124 = .ok (.ireturn, 1) := by decide +kernel
theorem dX9_would_125 : decode cX9_would 125 = .ok (.aload_n 0, 1) := by decide +kernel
theorem dX9_would_126 : decode cX9_would 126 = .ok (.getfield 48, 3) := by decide +kernel
theorem dX9_would_129 : decode cX9_would 129 = .ok (.aload_n 0, 1) := by decide +kernel
theorem dX9_would_130 : decode cX9_would 130 = .ok (.getfield 19, 3) := by decide +kernel
theorem dX9_would_133 : decode cX9_would 133 = .ok (.getfield 86, 3) := by decide +kernel
theorem dX9_would_136 : decode cX9_would 136 = .ok (.iload_n 2, 1) := by decide +kernel
theorem dX9_would_137 : decode cX9_would 137 = .ok (.iload_n 3, 1) := by decide +kernel
theorem dX9_would_138 : decode cX9_would 138 = .ok (.invokevirtual 142, 3) := by decide +kernel
theorem dX9_would_141 : decode cX9_would 141 = .ok (.invokevirtual 187, 3) := by decide +kernel
theorem dX9_would_144 : decode cX9_would 144 = .ok (.ireturn, 1) := by decide +kernel
theorem dX9_would_145 : decode cX9_would 145 = .ok (.aload_n 0, 1) := by decide +kernel
theorem dX9_would_146 : decode cX9_would 146 = .ok (.getfield 48, 3) := by decide +kernel
theorem dX9_would_149 : decode cX9_would 149 = .ok (.invokevirtual 190, 3) := by decide +kernel
theorem dX9_would_152 : decode cX9_would 152 = .ok (.ireturn, 1) := by decide +kernel
theorem dX9_bins_0 : decode cX9_bins 0 = .ok (.aload_n 0, 1) := by decide +kernel
theorem dX9_bins_1 : decode cX9_bins 1 = .ok (.getfield 19, 3) := by decide +kernel
theorem dX9_bins_4 : decode cX9_bins 4 = .ok (.getfield 120, 3) := by decide +kernel
theorem dX9_bins_7 : decode cX9_bins 7 = .ok (.iload_n 1, 1) := by decide +kernel
theorem dX9_bins_8 : decode cX9_bins 8 = .ok (.invokevirtual 167, 3) := by decide +kernel
theorem dX9_bins_11 : decode cX9_bins 11 = .ok (.astore_n 2, 1) := by decide +kernel
theorem dX9_bins_12 : decode cX9_bins 12 = .ok (.aload_n 2, 1) := by decide +kernel
theorem dX9_bins_13 : decode cX9_bins 13 = .ok (.ifnonnull 6, 3) := by decide +kernel
theorem dX9_bins_16 : decode cX9_bins 16 = .ok (.ldc 141, 2) := by decide +kernel
theorem dX9_bins_18 : decode cX9_bins 18 = .ok (.ireturn, 1) := by decide +kernel
theorem dX9_bins_19 : decode cX9_bins 19 = .ok (.iconst 0, 1) := by decide +kernel
theorem dX9_bins_20 : decode cX9_bins 20 = .ok (.istore_n 3, 1) := by decide +kernel
theorem dX9_bins_21 : decode cX9_bins 21 = .ok (.iconst 0, 1) := by decide +kernel
theorem dX9_bins_22 : decode cX9_bins 22 = .ok (.istore 4, 2) := by decide +kernel
theorem dX9_bins_24 : decode cX9_bins 24 = .ok (.iload 4, 2) := by decide +kernel
theorem dX9_bins_26 : decode cX9_bins 26 = .ok (.aload_n 0, 1) := by decide +kernel
theorem dX9_bins_27 : decode cX9_bins 27 = .ok (.getfield 19, 3) := by decide +kernel
theorem dX9_bins_30 : decode cX9_bins 30 = .ok (.getfield 86, 3) := by decide +kernel
theorem dX9_bins_33 : decode cX9_bins 33 = .ok (.getfield 102, 3) := by decide +kernel
theorem dX9_bins_36 : decode cX9_bins 36 = .ok (.if_icmp .ge 77, 3) := by decide +kernel
theorem dX9_bins_39 : decode cX9_bins 39 = .ok (.iconst 0, 1) := by decide +kernel
theorem dX9_bins_40 : decode cX9_bins 40 = .ok (.istore 5, 2) := by decide +kernel
theorem dX9_bins_42 : decode cX9_bins 42 = .ok (.iload 5, 2) := by decide +kernel
theorem dX9_bins_44 : decode cX9_bins 44 = .ok (.aload_n 0, 1) := by decide +kernel
theorem dX9_bins_45 : decode cX9_bins 45 = .ok (.getfield 19, 3) := by decide +kernel
theorem dX9_bins_48 : decode cX9_bins 48 = .ok (.getfield 86, 3) := by decide +kernel
theorem dX9_bins_51 : decode cX9_bins 51 = .ok (.getfield 99, 3) := by decide +kernel
theorem dX9_bins_54 : decode cX9_bins 54 = .ok (.if_icmp .ge 53, 3) := by decide +kernel
theorem dX9_bins_57 : decode cX9_bins 57 = .ok (.aload_n 0, 1) := by decide +kernel
theorem dX9_bins_58 : decode cX9_bins 58 = .ok (.getfield 19, 3) := by decide +kernel
theorem dX9_bins_61 : decode cX9_bins 61 = .ok (.getfield 86, 3) := by decide +kernel
theorem dX9_bins_64 : decode cX9_bins 64 = .ok (.iload 5, 2) := by decide +kernel
theorem dX9_bins_66 : decode cX9_bins 66 = .ok (.iload 4, 2) := by decide +kernel
theorem dX9_bins_68 : decode cX9_bins 68 = .ok (.invokevirtual 146, 3) := by decide +kernel
theorem dX9_bins_71 : decode cX9_bins 71 = .ok (.ifCond .ne 30, 3) := by decide +kernel
theorem dX9_bins_74 : decode cX9_bins 74 = .ok (.aload_n 0, 1) := by decide +kernel
theorem dX9_bins_75 : decode cX9_bins 75 = .ok (.aload_n 2, 1) := by decide +kernel
theorem dX9_bins_76 : decode cX9_bins 76 = .ok (.iload 5, 2) := by decide +kernel
theorem dX9_bins_78 : decode cX9_bins 78 = .ok (.iload 4, 2) := by decide +kernel
theorem dX9_bins_80 : decode cX9_bins 80 = .ok (.invokevirtual 193, 3) := by decide +kernel
theorem dX9_bins_83 : decode cX9_bins 83 = .ok (.istore 6, 2) := by decide +kernel
theorem dX9_bins_85 : decode cX9_bins 85 = .ok (.iload_n 3, 1) := by decide +kernel
theorem dX9_bins_86 : decode cX9_bins 86 = .ok (.iload 6, 2) := by decide +kernel
theorem dX9_bins_88 : decode cX9_bins 88 = .ok (.bipush 16, 2) := by decide +kernel
theorem dX9_bins_90 : decode cX9_bins 90 = .ok (.idiv, 1) := by decide +kernel
theorem dX9_bins_91 : decode cX9_bins 91 = .ok (.iload 6, 2) := by decide +kernel
theorem dX9_bins_93 : decode cX9_bins 93 = .ok (.bipush 16, 2) := by decide +kernel
theorem dX9_bins_95 : decode cX9_bins 95 = .ok (.irem, 1) := by decide +kernel
theorem dX9_bins_96 : decode cX9_bins 96 = .ok (.iadd, 1) := by decide +kernel
theorem dX9_bins_97 : decode cX9_bins 97 = .ok (.iconst 2, 1) := by decide +kernel
theorem dX9_bins_98 : decode cX9_bins 98 = .ok (.iadd, 1) := by decide +kernel
theorem dX9_bins_99 : decode cX9_bins 99 = .ok (.iadd, 1) := by decide +kernel
theorem dX9_bins_100 : decode cX9_bins 100 = .ok (.istore_n 3, 1) := by decide +kernel
theorem dX9_bins_101 : decode cX9_bins 101 = .ok (.iinc 5 1, 3) := by decide +kernel
theorem dX9_bins_104 : decode cX9_bins 104 = .ok (.goto (-62), 3) := by decide +kernel
theorem dX9_bins_107 : decode cX9_bins 107 = .ok (.iinc 4 1, 3) := by decide +kernel
theorem dX9_bins_110 : decode cX9_bins 110 = .ok (.goto (-86), 3) := by decide +kernel
theorem dX9_bins_113 : decode cX9_bins 113 = .ok (.iload_n 3, 1) := by decide +kernel
theorem dX9_bins_114 : decode cX9_bins 114 = .ok (.ireturn, 1) := by decide +kernel
theorem dX9_spikes_0 : decode cX9_spikes 0 = .ok (.aload_n 0, 1) := by decide +kernel
theorem dX9_spikes_1 : decode cX9_spikes 1 = .ok (.getfield 19, 3) := by decide +kernel
theorem dX9_spikes_4 : decode cX9_spikes 4 = .ok (.getfield 120, 3) := by decide +kernel
theorem dX9_spikes_7 : decode cX9_spikes 7 = .ok (.iload_n 1, 1) := by decide +kernel
theorem dX9_spikes_8 : decode cX9_spikes 8 = .ok (.invokevirtual 167, 3) := by decide +kernel
theorem dX9_spikes_11 : decode cX9_spikes 11 = .ok (.astore_n 3, 1) := by decide +kernel
theorem dX9_spikes_12 : decode cX9_spikes 12 = .ok (.aload_n 3, 1) := by decide +kernel
theorem dX9_spikes_13 : decode cX9_spikes 13 = .ok (.ifnonnull 6, 3) := by decide +kernel
theorem dX9_spikes_16 : decode cX9_spikes 16 = .ok (.ldc 141, 2) := by decide +kernel
theorem dX9_spikes_18 : decode cX9_spikes 18 = .ok (.ireturn, 1) := by decide +kernel
theorem dX9_spikes_19 : decode cX9_spikes 19 = .ok (.iload_n 2, 1) := by decide +kernel
theorem dX9_spikes_20 : decode cX9_spikes 20 = .ok (.iconst 0, 1) := by decide +kernel
theorem dX9_spikes_21 : decode cX9_spikes 21 = .ok (.sipush 255, 3) := by decide +kernel
theorem dX9_spikes_24 : decode cX9_spikes 24 = .ok (.invokestatic 66, 3) := by decide +kernel
theorem dX9_spikes_27 : decode cX9_spikes 27 = .ok (.ifCond .ne 6, 3) := by decide +kernel
theorem dX9_spikes_30 : decode cX9_spikes 30 = .ok (.ldc 70, 2) := by decide +kernel
theorem dX9_spikes_32 : decode cX9_spikes 32 = .ok (.ireturn, 1) := by decide +kernel
theorem dX9_spikes_33 : decode cX9_spikes 33 = .ok (.iconst 0, 1) := by decide +kernel
theorem dX9_spikes_34 : decode cX9_spikes 34 = .ok (.istore 4, 2) := by decide +kernel
theorem dX9_spikes_36 : decode cX9_spikes 36 = .ok (.iconst 0, 1) := by decide +kernel
theorem dX9_spikes_37 : decode cX9_spikes 37 = .ok (.istore 5, 2) := by decide +kernel
theorem dX9_spikes_39 : decode cX9_spikes 39 = .ok (.iload 5, 2) := by decide +kernel
theorem dX9_spikes_41 : decode cX9_spikes 41 = .ok (.aload_n 0, 1) := by decide +kernel
theorem dX9_spikes_42 : decode cX9_spikes 42 = .ok (.getfield 19, 3) := by decide +kernel
theorem dX9_spikes_45 : decode cX9_spikes 45 = .ok (.getfield 86, 3) := by decide +kernel
theorem dX9_spikes_48 : decode cX9_spikes 48 = .ok (.getfield 102, 3) := by decide +kernel
theorem dX9_spikes_51 : decode cX9_spikes 51 = .ok (.if_icmp .ge 84, 3) := by decide +kernel
theorem dX9_spikes_54 : decode cX9_spikes 54 = .ok (.iconst 0, 1) := by decide +kernel
theorem dX9_spikes_55 : decode cX9_spikes 55 = .ok (.istore 6, 2) := by decide +kernel
theorem dX9_spikes_57 : decode cX9_spikes 57 = .ok (.iload 6, 2) := by decide +kernel
theorem dX9_spikes_59 : decode cX9_spikes 59 = .ok (.aload_n 0, 1) := by decide +kernel
theorem dX9_spikes_60 : decode cX9_spikes 60 = .ok (.getfield 19, 3) := by decide +kernel
theorem dX9_spikes_63 : decode cX9_spikes 63 = .ok (.getfield 86, 3) := by decide +kernel
theorem dX9_spikes_66 : decode cX9_spikes 66 = .ok (.getfield 99, 3) := by decide +kernel
theorem dX9_spikes_69 : decode cX9_spikes 69 = .ok (.if_icmp .ge 60, 3) := by decide +kernel
theorem dX9_spikes_72 : decode cX9_spikes 72 = .ok (.aload_n 0, 1) := by decide +kernel
theorem dX9_spikes_73 : decode cX9_spikes 73 = .ok (.getfield 19, 3) := by decide +kernel
theorem dX9_spikes_76 : decode cX9_spikes 76 = .ok (.getfield 86, 3) := by decide +kernel
theorem dX9_spikes_79 : decode cX9_spikes 79 = .ok (.iload 6, 2) := by decide +kernel
theorem dX9_spikes_81 : decode cX9_spikes 81 = .ok (.iload 5, 2) := by decide +kernel
theorem dX9_spikes_83 : decode cX9_spikes 83 = .ok (.invokevirtual 146, 3) := by decide +kernel
theorem dX9_spikes_86 : decode cX9_spikes 86 = .ok (.ifCond .ne 37, 3) := by decide +kernel
theorem dX9_spikes_89 : decode cX9_spikes 89 = .ok (.aload_n 0, 1) := by decide +kernel
theorem dX9_spikes_90 : decode cX9_spikes 90 = .ok (.getfield 19, 3) := by decide +kernel
theorem dX9_spikes_93 : decode cX9_spikes 93 = .ok (.getfield 86, 3) := by decide +kernel
theorem dX9_spikes_96 : decode cX9_spikes 96 = .ok (.iload 6, 2) := by decide +kernel
theorem dX9_spikes_98 : decode cX9_spikes 98 = .ok (.iload 5, 2) := by decide +kernel
theorem dX9_spikes_100 : decode cX9_spikes 100 = .ok (.invokevirtual 142, 3) := by decide +kernel
theorem dX9_spikes_103 : decode cX9_spikes 103 = .ok (.aload_n 0, 1) := by decide +kernel
theorem dX9_spikes_104 : decode cX9_spikes 104 = .ok (.aload_n 3, 1) := by decide +kernel
theorem dX9_spikes_105 : decode cX9_spikes 105 = .ok (.iload 6, 2) := by decide +kernel
theorem dX9_spikes_107 : decode cX9_spikes 107 = .ok (.iload 5, 2) := by decide +kernel
theorem dX9_spikes_109 : decode cX9_spikes 109 = .ok (.invokevirtual 193, 3) := by decide +kernel
theorem dX9_spikes_112 : decode cX9_spikes 112 = .ok (.isub, 1) := by decide +kernel
theorem dX9_spikes_113 : decode cX9_spikes 113 = .ok (.invokestatic 197, 3) := by decide +kernel
theorem dX9_spikes_116 : decode cX9_spikes 116 = .ok (.iload_n 2, 1) := by decide +kernel
theorem dX9_spikes_117 : decode cX9_spikes 117 = .ok (.if_icmp .le 6, 3) := by decide +kernel
theorem dX9_spikes_120 : decode cX9_spikes 120 = .ok (.iinc 4 1, 3) := by decide +kernel
theorem dX9_spikes_123 : decode cX9_spikes 123 = .ok (.iinc 6 1, 3) := by decide +kernel
theorem dX9_spikes_126 : decode cX9_spikes 126 = .ok (.goto (-69), 3) := by decide +kernel
theorem dX9_spikes_129 : decode cX9_spikes 129 = .ok (.iinc 5 1, 3) := by decide +kernel
theorem dX9_spikes_132 : decode cX9_spikes 132 = .ok (.goto (-93), 3) := by decide +kernel
theorem dX9_spikes_135 : decode cX9_spikes 135 = .ok (.iload 4, 2) := by decide +kernel
theorem dX9_spikes_137 : decode cX9_spikes 137 = .ok (.ireturn, 1) := by decide +kernel
theorem dX9_dot_0 : decode cX9_dot 0 = .ok (.aload_n 0, 1) := by decide +kernel
theorem dX9_dot_1 : decode cX9_dot 1 = .ok (.getfield 19, 3) := by decide +kernel
theorem dX9_dot_4 : decode cX9_dot 4 = .ok (.getfield 86, 3) := by decide +kernel
theorem dX9_dot_7 : decode cX9_dot 7 = .ok (.iload_n 1, 1) := by decide +kernel
theorem dX9_dot_8 : decode cX9_dot 8 = .ok (.iload_n 2, 1) := by decide +kernel
theorem dX9_dot_9 : decode cX9_dot 9 = .ok (.invokevirtual 137, 3) := by decide +kernel
theorem dX9_dot_12 : decode cX9_dot 12 = .ok (.ifCond .ne 6, 3) := by decide +kernel
theorem dX9_dot_15 : decode cX9_dot 15 = .ok (.ldc 141, 2) := by decide +kernel
theorem dX9_dot_17 : decode cX9_dot 17 = .ok (.ireturn, 1) := by decide +kernel
theorem dX9_dot_18 : decode cX9_dot 18 = .ok (.iload_n 3, 1) := by decide +kernel
theorem dX9_dot_19 : decode cX9_dot 19 = .ok (.iconst 0, 1) := by decide +kernel
theorem dX9_dot_20 : decode cX9_dot 20 = .ok (.sipush 255, 3) := by decide +kernel
theorem dX9_dot_23 : decode cX9_dot 23 = .ok (.invokestatic 66, 3) := by decide +kernel
theorem dX9_dot_26 : decode cX9_dot 26 = .ok (.ifCond .ne 6, 3) := by decide +kernel
theorem dX9_dot_29 : decode cX9_dot 29 = .ok (.ldc 70, 2) := by decide +kernel
theorem dX9_dot_31 : decode cX9_dot 31 = .ok (.ireturn, 1) := by decide +kernel
theorem dX9_dot_32 : decode cX9_dot 32 = .ok (.aload_n 0, 1) := by decide +kernel
theorem dX9_dot_33 : decode cX9_dot 33 = .ok (.getfield 34, 3) := by decide +kernel
theorem dX9_dot_36 : decode cX9_dot 36 = .ok (.aload_n 0, 1) := by decide +kernel
theorem dX9_dot_37 : decode cX9_dot 37 = .ok (.getfield 19, 3) := by decide +kernel
theorem dX9_dot_40 : decode cX9_dot 40 = .ok (.getfield 86, 3) := by decide +kernel
theorem dX9_dot_43 : decode cX9_dot 43 = .ok (.invokevirtual 89, 3) := by decide +kernel
theorem dX9_dot_46 : decode cX9_dot 46 = .ok (.aload_n 0, 1) := by decide +kernel
theorem dX9_dot_47 : decode cX9_dot 47 = .ok (.getfield 19, 3) := by decide +kernel
theorem dX9_dot_50 : decode cX9_dot 50 = .ok (.getfield 86, 3) := by decide +kernel
theorem dX9_dot_53 : decode cX9_dot 53 = .ok (.iload_n 1, 1) := by decide +kernel
theorem dX9_dot_54 : decode cX9_dot 54 = .ok (.iload_n 2, 1) := by decide +kernel
theorem dX9_dot_55 : decode cX9_dot 55 = .ok (.invokevirtual 142, 3) := by decide +kernel
theorem dX9_dot_58 : decode cX9_dot 58 = .ok (.istore 4, 2) := by decide +kernel
theorem dX9_dot_60 : decode cX9_dot 60 = .ok (.aload_n 0, 1) := by decide +kernel
theorem dX9_dot_61 : decode cX9_dot 61 = .ok (.getfield 19, 3) := by decide +kernel
theorem dX9_dot_64 : decode cX9_dot 64 = .ok (.getfield 86, 3) := by decide +kernel
theorem dX9_dot_67 : decode cX9_dot 67 = .ok (.iload_n 1, 1) := by decide +kernel
theorem dX9_dot_68 : decode cX9_dot 68 = .ok (.iload_n 2, 1) := by decide +kernel
theorem dX9_dot_69 : decode cX9_dot 69 = .ok (.iload_n 3, 1) := by decide +kernel
theorem dX9_dot_70 : decode cX9_dot 70 = .ok (.invokevirtual 202, 3) := by decide +kernel
theorem dX9_dot_73 : decode cX9_dot 73 = .ok (.iload 4, 2) := by decide +kernel
theorem dX9_dot_75 : decode cX9_dot 75 = .ok (.ireturn, 1) := by decide +kernel
theorem dX9_mask_0 : decode cX9_mask 0 = .ok (.aload_n 0, 1) := by decide +kernel
theorem dX9_mask_1 : decode cX9_mask 1 = .ok (.getfield 19, 3) := by decide +kernel
theorem dX9_mask_4 : decode cX9_mask 4 = .ok (.getfield 86, 3) := by decide +kernel
theorem dX9_mask_7 : decode cX9_mask 7 = .ok (.iload_n 1, 1) := by decide +kernel
theorem dX9_mask_8 : decode cX9_mask 8 = .ok (.iload_n 2, 1) := by decide +kernel
theorem dX9_mask_9 : decode cX9_mask 9 = .ok (.invokevirtual 137, 3) := by decide +kernel
theorem dX9_mask_12 : decode cX9_mask 12 = .ok (.ifCond .ne 6, 3) := by decide +kernel
theorem dX9_mask_15 : decode cX9_mask 15 = .ok (.ldc 141, 2) := by decide +kernel
theorem dX9_mask_17 : decode cX9_mask 17 = .ok (.ireturn, 1) := by decide +kernel
theorem dX9_mask_18 : decode cX9_mask 18 = .ok (.aload_n 0, 1) := by decide +kernel
theorem dX9_mask_19 : decode cX9_mask 19 = .ok (.getfield 34, 3) := by decide +kernel
theorem dX9_mask_22 : decode cX9_mask 22 = .ok (.aload_n 0, 1) := by decide +kernel
theorem dX9_mask_23 : decode cX9_mask 23 = .ok (.getfield 19, 3) := by decide +kernel
theorem dX9_mask_26 : decode cX9_mask 26 = .ok (.getfield 86, 3) := by decide +kernel
theorem dX9_mask_29 : decode cX9_mask 29 = .ok (.invokevirtual 89, 3) := by decide +kernel
theorem dX9_mask_32 : decode cX9_mask 32 = .ok (.aload_n 0, 1) := by decide +kernel
theorem dX9_mask_33 : decode cX9_mask 33 = .ok (.getfield 19, 3) := by decide +kernel
theorem dX9_mask_36 : decode cX9_mask 36 = .ok (.getfield 86, 3) := by decide +kernel
theorem dX9_mask_39 : decode cX9_mask 39 = .ok (.iload_n 1, 1) := by decide +kernel
theorem dX9_mask_40 : decode cX9_mask 40 = .ok (.iload_n 2, 1) := by decide +kernel
theorem dX9_mask_41 : decode cX9_mask 41 = .ok (.iload_n 3, 1) := by decide +kernel
theorem dX9_mask_42 : decode cX9_mask 42 = .ok (.invokevirtual 206, 3) := by decide +kernel
theorem dX9_mask_45 : decode cX9_mask 45 = .ok (.aload_n 0, 1) := by decide +kernel
theorem dX9_mask_46 : decode cX9_mask 46 = .ok (.getfield 19, 3) := by decide +kernel
theorem dX9_mask_49 : decode cX9_mask 49 = .ok (.getfield 86, 3) := by decide +kernel
theorem dX9_mask_52 : decode cX9_mask 52 = .ok (.invokevirtual 105, 3) := by decide +kernel
theorem dX9_mask_55 : decode cX9_mask 55 = .ok (.ireturn, 1) := by decide +kernel
theorem dX9_turn_0 : decode cX9_turn 0 = .ok (.iload_n 1, 1) := by decide +kernel
theorem dX9_turn_1 : decode cX9_turn 1 = .ok (.iconst 0, 1) := by decide +kernel
theorem dX9_turn_2 : decode cX9_turn 2 = .ok (.iconst 3, 1) := by decide +kernel
theorem dX9_turn_3 : decode cX9_turn 3 = .ok (.invokestatic 66, 3) := by decide +kernel
theorem dX9_turn_6 : decode cX9_turn 6 = .ok (.ifCond .ne 6, 3) := by decide +kernel
theorem dX9_turn_9 : decode cX9_turn 9 = .ok (.ldc 70, 2) := by decide +kernel
theorem dX9_turn_11 : decode cX9_turn 11 = .ok (.ireturn, 1) := by decide +kernel
theorem dX9_turn_12 : decode cX9_turn 12 = .ok (.iload_n 1, 1) := by decide +kernel
theorem dX9_turn_13 : decode cX9_turn 13 = .ok (.iconst 2, 1) := by decide +kernel
theorem dX9_turn_14 : decode cX9_turn 14 = .ok (.if_icmp .ne 36, 3) := by decide +kernel
theorem dX9_turn_17 : decode cX9_turn 17 = .ok (.aload_n 0, 1) := by decide +kernel
theorem dX9_turn_18 : decode cX9_turn 18 = .ok (.getfield 19, 3) := by decide +kernel
theorem dX9_turn_21 : decode cX9_turn 21 = .ok (.getfield 86, 3) := by decide +kernel
theorem dX9_turn_24 : decode cX9_turn 24 = .ok (.getfield 102, 3) := by decide +kernel
theorem dX9_turn_27 : decode cX9_turn 27 = .ok (.bipush 10, 2) := by decide +kernel
theorem dX9_turn_29 : decode cX9_turn 29 = .ok (.if_icmp .gt 18, 3) := by decide +kernel
theorem dX9_turn_32 : decode cX9_turn 32 = .ok (.aload_n 0, 1) := by decide +kernel
theorem dX9_turn_33 : decode cX9_turn 33 = .ok (.getfield 19, 3) := by decide +kernel
theorem dX9_turn_36 : decode cX9_turn 36 = .ok (.getfield 86, 3) := by decide +kernel
theorem dX9_turn_39 : decode cX9_turn 39 = .ok (.getfield 99, 3) := by decide +kernel
theorem dX9_turn_42 : decode cX9_turn 42 = .ok (.bipush 8, 2) := by decide +kernel
theorem dX9_turn_44 : decode cX9_turn 44 = .ok (.if_icmp .le 6, 3) := by decide +kernel
theorem dX9_turn_47 : decode cX9_turn 47 = .ok (.ldc 210, 2) := by decide +kernel
theorem dX9_turn_49 : decode cX9_turn 49 = .ok (.ireturn, 1) := by decide +kernel
theorem dX9_turn_50 : decode cX9_turn 50 = .ok (.aload_n 0, 1) := by decide +kernel
theorem dX9_turn_51 : decode cX9_turn 51 = .ok (.getfield 34, 3) := by decide +kernel
theorem dX9_turn_54 : decode cX9_turn 54 = .ok (.aload_n 0, 1) := by decide +kernel
theorem dX9_turn_55 : decode cX9_turn 55 = .ok (.getfield 19, 3) := by decide +kernel
theorem dX9_turn_58 : decode cX9_turn 58 = .ok (.getfield 86, 3) := by decide +kernel
theorem dX9_turn_61 : decode cX9_turn 61 = .ok (.invokevirtual 89, 3) := by decide +kernel
theorem dX9_turn_64 : decode cX9_turn 64 = .ok (.aload_n 0, 1) := by decide +kernel
theorem dX9_turn_65 : decode cX9_turn 65 = .ok (.getfield 55, 3) := by decide +kernel
theorem dX9_turn_68 : decode cX9_turn 68 = .ok (.aload_n 0, 1) := by decide +kernel
theorem dX9_turn_69 : decode cX9_turn 69 = .ok (.getfield 19, 3) := by decide +kernel
theorem dX9_turn_72 : decode cX9_turn 72 = .ok (.getfield 86, 3) := by decide +kernel
theorem dX9_turn_75 : decode cX9_turn 75 = .ok (.iload_n 1, 1) := by decide +kernel
theorem dX9_turn_76 : decode cX9_turn 76 = .ok (.invokevirtual 211, 3) := by decide +kernel
theorem dX9_turn_79 : decode cX9_turn 79 = .ok (.aload_n 0, 1) := by decide +kernel
theorem dX9_turn_80 : decode cX9_turn 80 = .ok (.getfield 19, 3) := by decide +kernel
theorem dX9_turn_83 : decode cX9_turn 83 = .ok (.getfield 86, 3) := by decide +kernel
theorem dX9_turn_86 : decode cX9_turn 86 = .ok (.aload_n 0, 1) := by decide +kernel
theorem dX9_turn_87 : decode cX9_turn 87 = .ok (.getfield 55, 3) := by decide +kernel
theorem dX9_turn_90 : decode cX9_turn 90 = .ok (.invokevirtual 93, 3) := by decide +kernel
theorem dX9_turn_93 : decode cX9_turn 93 = .ok (.aload_n 0, 1) := by decide +kernel
theorem dX9_turn_94 : decode cX9_turn 94 = .ok (.getfield 19, 3) := by decide +kernel
theorem dX9_turn_97 : decode cX9_turn 97 = .ok (.getfield 86, 3) := by decide +kernel
theorem dX9_turn_100 : decode cX9_turn 100 = .ok (.getfield 99, 3) := by decide +kernel
theorem dX9_turn_103 : decode cX9_turn 103 = .ok (.ireturn, 1) := by decide +kernel
theorem dX9_filtered_0 : decode cX9_filtered 0 = .ok (.aload_n 0, 1) := by decide +kernel
theorem dX9_filtered_1 : decode cX9_filtered 1 = .ok (.getfield 19, 3) := by decide +kernel
theorem dX9_filtered_4 : decode cX9_filtered 4 = .ok (.getfield 120, 3) := by decide +kernel
theorem dX9_filtered_7 : decode cX9_filtered 7 = .ok (.iload_n 1, 1) := by decide +kernel
theorem dX9_filtered_8 : decode cX9_filtered 8 = .ok (.invokevirtual 167, 3) := by decide +kernel
theorem dX9_filtered_11 : decode cX9_filtered 11 = .ok (.astore_n 2, 1) := by decide +kernel
theorem dX9_filtered_12 : decode cX9_filtered 12 = .ok (.aload_n 2, 1) := by decide +kernel
theorem dX9_filtered_13 : decode cX9_filtered 13 = .ok (.ifnonnull 6, 3) := by decide +kernel
theorem dX9_filtered_16 : decode cX9_filtered 16 = .ok (.ldc 141, 2) := by decide +kernel
theorem dX9_filtered_18 : decode cX9_filtered 18 = .ok (.ireturn, 1) := by decide +kernel
theorem dX9_filtered_19 : decode cX9_filtered 19 = .ok (.aload_n 0, 1) := by decide +kernel
theorem dX9_filtered_20 : decode cX9_filtered 20 = .ok (.getfield 34, 3) := by decide +kernel
theorem dX9_filtered_23 : decode cX9_filtered 23 = .ok (.aload_n 0, 1) := by decide +kernel
theorem dX9_filtered_24 : decode cX9_filtered 24 = .ok (.getfield 19, 3) := by decide +kernel
theorem dX9_filtered_27 : decode cX9_filtered 27 = .ok (.getfield 86, 3) := by decide +kernel
theorem dX9_filtered_30 : decode cX9_filtered 30 = .ok (.invokevirtual 89, 3) := by decide +kernel
theorem dX9_filtered_33 : decode cX9_filtered 33 = .ok (.aload_n 0, 1) := by decide +kernel
theorem dX9_filtered_34 : decode cX9_filtered 34 = .ok (.aload_n 2, 1) := by decide +kernel
theorem dX9_filtered_35 : decode cX9_filtered 35 = .ok (.invokevirtual 215, 3) := by decide +kernel
theorem dX9_filtered_38 : decode cX9_filtered 38 = .ok (.ireturn, 1) := by decide +kernel
theorem dX9_all_0 : decode cX9_all 0 = .ok (.aload_n 0, 1) := by decide +kernel
theorem dX9_all_1 : decode cX9_all 1 = .ok (.getfield 19, 3) := by decide +kernel
theorem dX9_all_4 : decode cX9_all 4 = .ok (.getfield 120, 3) := by decide +kernel
theorem dX9_all_7 : decode cX9_all 7 = .ok (.getfield 124, 3) := by decide +kernel
theorem dX9_all_10 : decode cX9_all 10 = .ok (.ifCond .ne 6, 3) := by decide +kernel
theorem dX9_all_13 : decode cX9_all 13 = .ok (.ldc 210, 2) := by decide +kernel
theorem dX9_all_15 : decode cX9_all 15 = .ok (.ireturn, 1) := by decide +kernel
theorem dX9_all_16 : decode cX9_all 16 = .ok (.aload_n 0, 1) := by decide +kernel
theorem dX9_all_17 : decode cX9_all 17 = .ok (.getfield 34, 3) := by decide +kernel
theorem dX9_all_20 : decode cX9_all 20 = .ok (.aload_n 0, 1) := by decide +kernel
theorem dX9_all_21 : decode cX9_all 21 = .ok (.getfield 19, 3) := by decide +kernel
theorem dX9_all_24 : decode cX9_all 24 = .ok (.getfield 86, 3) := by decide +kernel
theorem dX9_all_27 : decode cX9_all 27 = .ok (.invokevirtual 89, 3) := by decide +kernel
theorem dX9_all_30 : decode cX9_all 30 = .ok (.aload_n 0, 1) := by decide +kernel
theorem dX9_all_31 : decode cX9_all 31 = .ok (.getfield 59, 3) := by decide +kernel
theorem dX9_all_34 : decode cX9_all 34 = .ok (.aload_n 0, 1) := by decide +kernel
theorem dX9_all_35 : decode cX9_all 35 = .ok (.getfield 19, 3) := by decide +kernel
theorem dX9_all_38 : decode cX9_all 38 = .ok (.getfield 86, 3) := by decide +kernel
theorem dX9_all_41 : decode cX9_all 41 = .ok (.invokevirtual 93, 3) := by decide +kernel
theorem dX9_all_44 : decode cX9_all 44 = .ok (.iconst 0, 1) := by decide +kernel
theorem dX9_all_45 : decode cX9_all 45 = .ok (.istore_n 1, 1) := by decide +kernel
theorem dX9_all_46 : decode cX9_all 46 = .ok (.iload_n 1, 1) := by decide +kernel
theorem dX9_all_47 : decode cX9_all 47 = .ok (.aload_n 0, 1) := by decide +kernel
theorem dX9_all_48 : decode cX9_all 48 = .ok (.getfield 19, 3) := by decide +kernel
theorem dX9_all_51 : decode cX9_all 51 = .ok (.getfield 120, 3) := by decide +kernel
theorem dX9_all_54 : decode cX9_all 54 = .ok (.getfield 124, 3) := by decide +kernel
theorem dX9_all_57 : decode cX9_all 57 = .ok (.if_icmp .ge 31, 3) := by decide +kernel
theorem dX9_all_60 : decode cX9_all 60 = .ok (.aload_n 0, 1) := by decide +kernel
theorem dX9_all_61 : decode cX9_all 61 = .ok (.getfield 19, 3) := by decide +kernel
theorem dX9_all_64 : decode cX9_all 64 = .ok (.getfield 120, 3) := by decide +kernel
theorem dX9_all_67 : decode cX9_all 67 = .ok (.iload_n 1, 1) := by decide +kernel
theorem dX9_all_68 : decode cX9_all 68 = .ok (.invokevirtual 167, 3) := by decide +kernel
theorem dX9_all_71 : decode cX9_all 71 = .ok (.astore_n 2, 1) := by decide +kernel
theorem dX9_all_72 : decode cX9_all 72 = .ok (.aload_n 2, 1) := by decide +kernel
theorem dX9_all_73 : decode cX9_all 73 = .ok (.ifnull 9, 3) := by decide +kernel
theorem dX9_all_76 : decode cX9_all 76 = .ok (.aload_n 0, 1) := by decide +kernel
theorem dX9_all_77 : decode cX9_all 77 = .ok (.aload_n 2, 1) := by decide +kernel
theorem dX9_all_78 : decode cX9_all 78 = .ok (.invokevirtual 215, 3) := by decide +kernel
theorem dX9_all_81 : decode cX9_all 81 = .ok (.pop, 1) := by decide +kernel
theorem dX9_all_82 : decode cX9_all 82 = .ok (.iinc 1 1, 3) := by decide +kernel
theorem dX9_all_85 : decode cX9_all 85 = .ok (.goto (-39), 3) := by decide +kernel
theorem dX9_all_88 : decode cX9_all 88 = .ok (.aload_n 0, 1) := by decide +kernel
theorem dX9_all_89 : decode cX9_all 89 = .ok (.getfield 19, 3) := by decide +kernel
theorem dX9_all_92 : decode cX9_all 92 = .ok (.getfield 86, 3) := by decide +kernel
theorem dX9_all_95 : decode cX9_all 95 = .ok (.aload_n 0, 1) := by decide +kernel
theorem dX9_all_96 : decode cX9_all 96 = .ok (.getfield 59, 3) := by decide +kernel
theorem dX9_all_99 : decode cX9_all 99 = .ok (.invokevirtual 218, 3) := by decide +kernel
theorem dX9_all_102 : decode cX9_all 102 = .ok (.ireturn, 1) := by decide +kernel
theorem dX9_until_0 : decode cX9_until 0 = .ok (.aload_n 0, 1) := by decide +kernel
theorem dX9_until_1 : decode cX9_until 1 = .ok (.getfield 19, 3) := by decide +kernel
theorem dX9_until_4 : decode cX9_until 4 = .ok (.getfield 120, 3) := by decide +kernel
theorem dX9_until_7 : decode cX9_until 7 = .ok (.iload_n 1, 1) := by decide +kernel
theorem dX9_until_8 : decode cX9_until 8 = .ok (.invokevirtual 167, 3) := by decide +kernel
theorem dX9_until_11 : decode cX9_until 11 = .ok (.astore_n 3, 1) := by decide +kernel
theorem dX9_until_12 : decode cX9_until 12 = .ok (.aload_n 3, 1) := by decide +kernel
theorem dX9_until_13 : decode cX9_until 13 = .ok (.ifnonnull 6, 3) := by decide +kernel
theorem dX9_until_16 : decode cX9_until 16 = .ok (.ldc 141, 2) := by decide +kernel
theorem dX9_until_18 : decode cX9_until 18 = .ok (.ireturn, 1) := by decide +kernel
theorem dX9_until_19 : decode cX9_until 19 = .ok (.iload_n 2, 1) := by decide +kernel
theorem dX9_until_20 : decode cX9_until 20 = .ok (.iconst 1, 1) := by decide +kernel
theorem dX9_until_21 : decode cX9_until 21 = .ok (.bipush 20, 2) := by decide +kernel
theorem dX9_until_23 : decode cX9_until 23 = .ok (.invokestatic 66, 3) := by decide +kernel
theorem dX9_until_26 : decode cX9_until 26 = .ok (.ifCond .ne 6, 3) := by decide +kernel
theorem dX9_until_29 : decode cX9_until 29 = .ok (.ldc 70, 2) := by decide +kernel
theorem dX9_until_31 : decode cX9_until 31 = .ok (.ireturn, 1) := by decide +kernel
theorem dX9_until_32 : decode cX9_until 32 = .ok (.aload_n 0, 1) := by decide +kernel
theorem dX9_until_33 : decode cX9_until 33 = .ok (.getfield 34, 3) := by decide +kernel
theorem dX9_until_36 : decode cX9_until 36 = .ok (.aload_n 0, 1) := by decide +kernel
theorem dX9_until_37 : decode cX9_until 37 = .ok (.getfield 19, 3) := by decide +kernel
theorem dX9_until_40 : decode cX9_until 40 = .ok (.getfield 86, 3) := by decide +kernel
theorem dX9_until_43 : decode cX9_until 43 = .ok (.invokevirtual 89, 3) := by decide +kernel
theorem dX9_until_46 : decode cX9_until 46 = .ok (.iconst 0, 1) := by decide +kernel
theorem dX9_until_47 : decode cX9_until 47 = .ok (.istore 4, 2) := by decide +kernel
theorem dX9_until_49 : decode cX9_until 49 = .ok (.iload 4, 2) := by decide +kernel
theorem dX9_until_51 : decode cX9_until 51 = .ok (.iload_n 2, 1) := by decide +kernel
theorem dX9_until_52 : decode cX9_until 52 = .ok (.if_icmp .ge 17, 3) := by decide +kernel
theorem dX9_until_55 : decode cX9_until 55 = .ok (.aload_n 0, 1) := by decide +kernel
theorem dX9_until_56 : decode cX9_until 56 = .ok (.aload_n 3, 1) := by decide +kernel
theorem dX9_until_57 : decode cX9_until 57 = .ok (.invokevirtual 215, 3) := by decide +kernel
theorem dX9_until_60 : decode cX9_until 60 = .ok (.ifCond .le 9, 3) := by decide +kernel
theorem dX9_until_63 : decode cX9_until 63 = .ok (.iinc 4 1, 3) := by decide +kernel
theorem dX9_until_66 : decode cX9_until 66 = .ok (.goto (-17), 3) := by decide +kernel
theorem dX9_until_69 : decode cX9_until 69 = .ok (.iload 4, 2) := by decide +kernel
theorem dX9_until_71 : decode cX9_until 71 = .ok (.ireturn, 1) := by decide +kernel
theorem dX9_noise_0 : decode cX9_noise 0 = .ok (.iload_n 1, 1) := by decide +kernel
theorem dX9_noise_1 : decode cX9_noise 1 = .ok (.iconst 1, 1) := by decide +kernel
theorem dX9_noise_2 : decode cX9_noise 2 = .ok (.bipush 12, 2) := by decide +kernel
theorem dX9_noise_4 : decode cX9_noise 4 = .ok (.invokestatic 66, 3) := by decide +kernel
theorem dX9_noise_7 : decode cX9_noise 7 = .ok (.ifCond .ne 6, 3) := by decide +kernel
theorem dX9_noise_10 : decode cX9_noise 10 = .ok (.ldc 70, 2) := by decide +kernel
theorem dX9_noise_12 : decode cX9_noise 12 = .ok (.ireturn, 1) := by decide +kernel
theorem dX9_noise_13 : decode cX9_noise 13 = .ok (.iconst 0, 1) := by decide +kernel
theorem dX9_noise_14 : decode cX9_noise 14 = .ok (.istore_n 2, 1) := by decide +kernel
theorem dX9_noise_15 : decode cX9_noise 15 = .ok (.iload_n 2, 1) := by decide +kernel
theorem dX9_noise_16 : decode cX9_noise 16 = .ok (.iload_n 1, 1) := by decide +kernel
theorem dX9_noise_17 : decode cX9_noise 17 = .ok (.if_icmp .ge 30, 3) := by decide +kernel
theorem dX9_noise_20 : decode cX9_noise 20 = .ok (.aload_n 0, 1) := by decide +kernel
theorem dX9_noise_21 : decode cX9_noise 21 = .ok (.getfield 34, 3) := by decide +kernel
theorem dX9_noise_24 : decode cX9_noise 24 = .ok (.aload_n 0, 1) := by decide +kernel
theorem dX9_noise_25 : decode cX9_noise 25 = .ok (.getfield 19, 3) := by decide +kernel
theorem dX9_noise_28 : decode cX9_noise 28 = .ok (.getfield 86, 3) := by decide +kernel
theorem dX9_noise_31 : decode cX9_noise 31 = .ok (.invokevirtual 89, 3) := by decide +kernel
theorem dX9_noise_34 : decode cX9_noise 34 = .ok (.aload_n 0, 1) := by decide +kernel
theorem dX9_noise_35 : decode cX9_noise 35 = .ok (.getfield 19, 3) := by decide +kernel
theorem dX9_noise_38 : decode cX9_noise 38 = .ok (.invokevirtual 221, 3) := by decide +kernel
theorem dX9_noise_41 : decode cX9_noise 41 = .ok (.iinc 2 1, 3) := by decide +kernel
theorem dX9_noise_44 : decode cX9_noise 44 = .ok (.goto (-29), 3) := by decide +kernel
theorem dX9_noise_47 : decode cX9_noise 47 = .ok (.aload_n 0, 1) := by decide +kernel
theorem dX9_noise_48 : decode cX9_noise 48 = .ok (.getfield 19, 3) := by decide +kernel
theorem dX9_noise_51 : decode cX9_noise 51 = .ok (.getfield 224, 3) := by decide +kernel
theorem dX9_noise_54 : decode cX9_noise 54 = .ok (.ireturn, 1) := by decide +kernel
theorem dX9_undo_0 : decode cX9_undo 0 = .ok (.iload_n 1, 1) := by decide +kernel
theorem dX9_undo_1 : decode cX9_undo 1 = .ok (.iconst 1, 1) := by decide +kernel
theorem dX9_undo_2 : decode cX9_undo 2 = .ok (.bipush 16, 2) := by decide +kernel
theorem dX9_undo_4 : decode cX9_undo 4 = .ok (.invokestatic 66, 3) := by decide +kernel
theorem dX9_undo_7 : decode cX9_undo 7 = .ok (.ifCond .ne 6, 3) := by decide +kernel
theorem dX9_undo_10 : decode cX9_undo 10 = .ok (.ldc 70, 2) := by decide +kernel
theorem dX9_undo_12 : decode cX9_undo 12 = .ok (.ireturn, 1) := by decide +kernel
theorem dX9_undo_13 : decode cX9_undo 13 = .ok (.iload_n 1, 1) := by decide +kernel
theorem dX9_undo_14 : decode cX9_undo 14 = .ok (.aload_n 0, 1) := by decide +kernel
theorem dX9_undo_15 : decode cX9_undo 15 = .ok (.getfield 34, 3) := by decide +kernel
theorem dX9_undo_18 : decode cX9_undo 18 = .ok (.getfield 136, 3) := by decide +kernel
theorem dX9_undo_21 : decode cX9_undo 21 = .ok (.if_icmp .le 6, 3) := by decide +kernel
theorem dX9_undo_24 : decode cX9_undo 24 = .ok (.ldc 210, 2) := by decide +kernel
theorem dX9_undo_26 : decode cX9_undo 26 = .ok (.ireturn, 1) := by decide +kernel
theorem dX9_undo_27 : decode cX9_undo 27 = .ok (.aload_n 0, 1) := by decide +kernel
theorem dX9_undo_28 : decode cX9_undo 28 = .ok (.getfield 34, 3) := by decide +kernel
theorem dX9_undo_31 : decode cX9_undo 31 = .ok (.iload_n 1, 1) := by decide +kernel
theorem dX9_undo_32 : decode cX9_undo 32 = .ok (.aload_n 0, 1) := by decide +kernel
theorem dX9_undo_33 : decode cX9_undo 33 = .ok (.getfield 19, 3) := by decide +kernel
theorem dX9_undo_36 : decode cX9_undo 36 = .ok (.getfield 86, 3) := by decide +kernel
theorem dX9_undo_39 : decode cX9_undo 39 = .ok (.invokevirtual 227, 3) := by decide +kernel
theorem dX9_undo_42 : decode cX9_undo 42 = .ok (.aload_n 0, 1) := by decide +kernel
theorem dX9_undo_43 : decode cX9_undo 43 = .ok (.getfield 34, 3) := by decide +kernel
theorem dX9_undo_46 : decode cX9_undo 46 = .ok (.getfield 136, 3) := by decide +kernel
theorem dX9_undo_49 : decode cX9_undo 49 = .ok (.ireturn, 1) := by decide +kernel
theorem dX9_write_0 : decode cX9_write 0 = .ok (.aload_n 0, 1) := by decide +kernel
theorem dX9_write_1 : decode cX9_write 1 = .ok (.getfield 19, 3) := by decide +kernel
theorem dX9_write_4 : decode cX9_write 4 = .ok (.getfield 86, 3) := by decide +kernel
theorem dX9_write_7 : decode cX9_write 7 = .ok (.iload_n 1, 1) := by decide +kernel
theorem dX9_write_8 : decode cX9_write 8 = .ok (.iload_n 2, 1) := by decide +kernel
theorem dX9_write_9 : decode cX9_write 9 = .ok (.invokevirtual 137, 3) := by decide +kernel
theorem dX9_write_12 : decode cX9_write 12 = .ok (.ifCond .ne 6, 3) := by decide +kernel
theorem dX9_write_15 : decode cX9_write 15 = .ok (.ldc 141, 2) := by decide +kernel
theorem dX9_write_17 : decode cX9_write 17 = .ok (.ireturn, 1) := by decide +kernel
theorem dX9_write_18 : decode cX9_write 18 = .ok (.aload_n 0, 1) := by decide +kernel
theorem dX9_write_19 : decode cX9_write 19 = .ok (.getfield 41, 3) := by decide +kernel
theorem dX9_write_22 : decode cX9_write 22 = .ok (.iload_n 1, 1) := by decide +kernel
theorem dX9_write_23 : decode cX9_write 23 = .ok (.iload_n 2, 1) := by decide +kernel
theorem dX9_write_24 : decode cX9_write 24 = .ok (.iload_n 3, 1) := by decide +kernel
theorem dX9_write_25 : decode cX9_write 25 = .ok (.invokevirtual 231, 3) := by decide +kernel
theorem dX9_write_28 : decode cX9_write 28 = .ok (.ireturn, 1) := by decide +kernel
theorem dX9_tear_0 : decode cX9_tear 0 = .ok (.aload_n 0, 1) := by decide +kernel
theorem dX9_tear_1 : decode cX9_tear 1 = .ok (.getfield 41, 3) := by decide +kernel
theorem dX9_tear_4 : decode cX9_tear 4 = .ok (.getfield 132, 3) := by decide +kernel
theorem dX9_tear_7 : decode cX9_tear 7 = .ok (.istore_n 1, 1) := by decide +kernel
theorem dX9_tear_8 : decode cX9_tear 8 = .ok (.aload_n 0, 1) := by decide +kernel
theorem dX9_tear_9 : decode cX9_tear 9 = .ok (.getfield 41, 3) := by decide +kernel
theorem dX9_tear_12 : decode cX9_tear 12 = .ok (.iconst 0, 1) := by decide +kernel
theorem dX9_tear_13 : decode cX9_tear 13 = .ok (.putfield 132, 3) := by decide +kernel
theorem dX9_tear_16 : decode cX9_tear 16 = .ok (.iload_n 1, 1) := by decide +kernel
theorem dX9_tear_17 : decode cX9_tear 17 = .ok (.ireturn, 1) := by decide +kernel
theorem dX9_seed_0 : decode cX9_seed 0 = .ok (.iload_n 1, 1) := by decide +kernel
theorem dX9_seed_1 : decode cX9_seed 1 = .ok (.ifCond .ge 6, 3) := by decide +kernel
theorem dX9_seed_4 : decode cX9_seed 4 = .ok (.ldc 70, 2) := by decide +kernel
theorem dX9_seed_6 : decode cX9_seed 6 = .ok (.ireturn, 1) := by decide +kernel
theorem dX9_seed_7 : decode cX9_seed 7 = .ok (.aload_n 0, 1) := by decide +kernel
theorem dX9_seed_8 : decode cX9_seed 8 = .ok (.getfield 19, 3) := by decide +kernel
theorem dX9_seed_11 : decode cX9_seed 11 = .ok (.getfield 224, 3) := by decide +kernel
theorem dX9_seed_14 : decode cX9_seed 14 = .ok (.istore_n 2, 1) := by decide +kernel
theorem dX9_seed_15 : decode cX9_seed 15 = .ok (.aload_n 0, 1) := by decide +kernel
theorem dX9_seed_16 : decode cX9_seed 16 = .ok (.getfield 19, 3) := by decide +kernel
theorem dX9_seed_19 : decode cX9_seed 19 = .ok (.iload_n 1, 1) := by decide +kernel
theorem dX9_seed_20 : decode cX9_seed 20 = .ok (.putfield 224, 3) := by decide +kernel
theorem dX9_seed_23 : decode cX9_seed 23 = .ok (.iload_n 2, 1) := by decide +kernel
theorem dX9_seed_24 : decode cX9_seed 24 = .ok (.ireturn, 1) := by decide +kernel
theorem dX9_keep_0 : decode cX9_keep 0 = .ok (.iload_n 1, 1) := by decide +kernel
theorem dX9_keep_1 : decode cX9_keep 1 = .ok (.iconst 0, 1) := by decide +kernel
theorem dX9_keep_2 : decode cX9_keep 2 = .ok (.iconst 1, 1) := by decide +kernel
theorem dX9_keep_3 : decode cX9_keep 3 = .ok (.invokestatic 66, 3) := by decide +kernel
theorem dX9_keep_6 : decode cX9_keep 6 = .ok (.ifCond .ne 6, 3) := by decide +kernel
theorem dX9_keep_9 : decode cX9_keep 9 = .ok (.ldc 141, 2) := by decide +kernel
theorem dX9_keep_11 : decode cX9_keep 11 = .ok (.ireturn, 1) := by decide +kernel
theorem dX9_keep_12 : decode cX9_keep 12 = .ok (.aload_n 0, 1) := by decide +kernel
theorem dX9_keep_13 : decode cX9_keep 13 = .ok (.getfield 23, 3) := by decide +kernel
theorem dX9_keep_16 : decode cX9_keep 16 = .ok (.iload_n 1, 1) := by decide +kernel
theorem dX9_keep_17 : decode cX9_keep 17 = .ok (.aaload, 1) := by decide +kernel
theorem dX9_keep_18 : decode cX9_keep 18 = .ok (.aload_n 0, 1) := by decide +kernel
theorem dX9_keep_19 : decode cX9_keep 19 = .ok (.getfield 19, 3) := by decide +kernel
theorem dX9_keep_22 : decode cX9_keep 22 = .ok (.invokevirtual 234, 3) := by decide +kernel
theorem dX9_keep_25 : decode cX9_keep 25 = .ok (.aload_n 0, 1) := by decide +kernel
theorem dX9_keep_26 : decode cX9_keep 26 = .ok (.getfield 27, 3) := by decide +kernel
theorem dX9_keep_29 : decode cX9_keep 29 = .ok (.iload_n 1, 1) := by decide +kernel
theorem dX9_keep_30 : decode cX9_keep 30 = .ok (.iconst 1, 1) := by decide +kernel
theorem dX9_keep_31 : decode cX9_keep 31 = .ok (.bastore, 1) := by decide +kernel
theorem dX9_keep_32 : decode cX9_keep 32 = .ok (.aload_n 0, 1) := by decide +kernel
theorem dX9_keep_33 : decode cX9_keep 33 = .ok (.getfield 34, 3) := by decide +kernel
theorem dX9_keep_36 : decode cX9_keep 36 = .ok (.invokevirtual 237, 3) := by decide +kernel
theorem dX9_keep_39 : decode cX9_keep 39 = .ok (.iconst 1, 1) := by decide +kernel
theorem dX9_keep_40 : decode cX9_keep 40 = .ok (.ireturn, 1) := by decide +kernel
theorem dX9_goBack_0 : decode cX9_goBack 0 = .ok (.iload_n 1, 1) := by decide +kernel
theorem dX9_goBack_1 : decode cX9_goBack 1 = .ok (.iconst 0, 1) := by decide +kernel
theorem dX9_goBack_2 : decode cX9_goBack 2 = .ok (.iconst 1, 1) := by decide +kernel
theorem dX9_goBack_3 : decode cX9_goBack 3 = .ok (.invokestatic 66, 3) := by decide +kernel
theorem dX9_goBack_6 : decode cX9_goBack 6 = .ok (.ifCond .ne 6, 3) := by decide +kernel
theorem dX9_goBack_9 : decode cX9_goBack 9 = .ok (.ldc 141, 2) := by decide +kernel
theorem dX9_goBack_11 : decode cX9_goBack 11 = .ok (.ireturn, 1) := by decide +kernel
theorem dX9_goBack_12 : decode cX9_goBack 12 = .ok (.aload_n 0, 1) := by decide +kernel
theorem dX9_goBack_13 : decode cX9_goBack 13 = .ok (.getfield 27, 3) := by decide +kernel
theorem dX9_goBack_16 : decode cX9_goBack 16 = .ok (.iload_n 1, 1) := by decide +kernel
theorem dX9_goBack_17 : decode cX9_goBack 17 = .ok (.baload, 1) := by decide +kernel
theorem dX9_goBack_18 : decode cX9_goBack 18 = .ok (.ifCond .ne 6, 3) := by decide +kernel
theorem dX9_goBack_21 : decode cX9_goBack 21 = .ok (.ldc 210, 2) := by decide +kernel
theorem dX9_goBack_23 : decode cX9_goBack 23 = .ok (.ireturn, 1) := by decide +kernel
theorem dX9_goBack_24 : decode cX9_goBack 24 = .ok (.aload_n 0, 1) := by decide +kernel
theorem dX9_goBack_25 : decode cX9_goBack 25 = .ok (.getfield 19, 3) := by decide +kernel
theorem dX9_goBack_28 : decode cX9_goBack 28 = .ok (.aload_n 0, 1) := by decide +kernel
theorem dX9_goBack_29 : decode cX9_goBack 29 = .ok (.getfield 23, 3) := by decide +kernel
theorem dX9_goBack_32 : decode cX9_goBack 32 = .ok (.iload_n 1, 1) := by decide +kernel
theorem dX9_goBack_33 : decode cX9_goBack 33 = .ok (.aaload, 1) := by decide +kernel
theorem dX9_goBack_34 : decode cX9_goBack 34 = .ok (.invokevirtual 234, 3) := by decide +kernel
theorem dX9_goBack_37 : decode cX9_goBack 37 = .ok (.aload_n 0, 1) := by decide +kernel
theorem dX9_goBack_38 : decode cX9_goBack 38 = .ok (.getfield 34, 3) := by decide +kernel
theorem dX9_goBack_41 : decode cX9_goBack 41 = .ok (.invokevirtual 237, 3) := by decide +kernel
theorem dX9_goBack_44 : decode cX9_goBack 44 = .ok (.iconst 1, 1) := by decide +kernel
theorem dX9_goBack_45 : decode cX9_goBack 45 = .ok (.ireturn, 1) := by decide +kernel
theorem dX9_against_0 : decode cX9_against 0 = .ok (.iload_n 1, 1) := by decide +kernel
theorem dX9_against_1 : decode cX9_against 1 = .ok (.iconst 0, 1) := by decide +kernel
theorem dX9_against_2 : decode cX9_against 2 = .ok (.iconst 1, 1) := by decide +kernel
theorem dX9_against_3 : decode cX9_against 3 = .ok (.invokestatic 66, 3) := by decide +kernel
theorem dX9_against_6 : decode cX9_against 6 = .ok (.ifCond .ne 6, 3) := by decide +kernel
theorem dX9_against_9 : decode cX9_against 9 = .ok (.ldc 141, 2) := by decide +kernel
theorem dX9_against_11 : decode cX9_against 11 = .ok (.ireturn, 1) := by decide +kernel
theorem dX9_against_12 : decode cX9_against 12 = .ok (.aload_n 0, 1) := by decide +kernel
theorem dX9_against_13 : decode cX9_against 13 = .ok (.getfield 27, 3) := by decide +kernel
theorem dX9_against_16 : decode cX9_against 16 = .ok (.iload_n 1, 1) := by decide +kernel
theorem dX9_against_17 : decode cX9_against 17 = .ok (.baload, 1) := by decide +kernel
theorem dX9_against_18 : decode cX9_against 18 = .ok (.ifCond .ne 6, 3) := by decide +kernel
theorem dX9_against_21 : decode cX9_against 21 = .ok (.ldc 210, 2) := by decide +kernel
theorem dX9_against_23 : decode cX9_against 23 = .ok (.ireturn, 1) := by decide +kernel
theorem dX9_against_24 : decode cX9_against 24 = .ok (.aload_n 0, 1) := by decide +kernel
theorem dX9_against_25 : decode cX9_against 25 = .ok (.getfield 19, 3) := by decide +kernel
theorem dX9_against_28 : decode cX9_against 28 = .ok (.getfield 86, 3) := by decide +kernel
theorem dX9_against_31 : decode cX9_against 31 = .ok (.aload_n 0, 1) := by decide +kernel
theorem dX9_against_32 : decode cX9_against 32 = .ok (.getfield 23, 3) := by decide +kernel
theorem dX9_against_35 : decode cX9_against 35 = .ok (.iload_n 1, 1) := by decide +kernel
theorem dX9_against_36 : decode cX9_against 36 = .ok (.aaload, 1) := by decide +kernel
theorem dX9_against_37 : decode cX9_against 37 = .ok (.getfield 86, 3) := by decide +kernel
theorem dX9_against_40 : decode cX9_against 40 = .ok (.invokevirtual 240, 3) := by decide +kernel
theorem dX9_against_43 : decode cX9_against 43 = .ok (.ireturn, 1) := by decide +kernel
theorem dX9_within_0 : decode cX9_within 0 = .ok (.iload_n 1, 1) := by decide +kernel
theorem dX9_within_1 : decode cX9_within 1 = .ok (.iload_n 0, 1) := by decide +kernel
theorem dX9_within_2 : decode cX9_within 2 = .ok (.if_icmp .gt 12, 3) := by decide +kernel
theorem dX9_within_5 : decode cX9_within 5 = .ok (.iload_n 0, 1) := by decide +kernel
theorem dX9_within_6 : decode cX9_within 6 = .ok (.iload_n 2, 1) := by decide +kernel
theorem dX9_within_7 : decode cX9_within 7 = .ok (.if_icmp .gt 7, 3) := by decide +kernel
theorem dX9_within_10 : decode cX9_within 10 = .ok (.iconst 1, 1) := by decide +kernel
theorem dX9_within_11 : decode cX9_within 11 = .ok (.goto 4, 3) := by decide +kernel
theorem dX9_within_14 : decode cX9_within 14 = .ok (.iconst 0, 1) := by decide +kernel
theorem dX9_within_15 : decode cX9_within 15 = .ok (.ireturn, 1) := by decide +kernel
theorem dX9_lastOf_0 : decode cX9_lastOf 0 = .ok (.aload_n 0, 1) := by decide +kernel
theorem dX9_lastOf_1 : decode cX9_lastOf 1 = .ok (.getfield 48, 3) := by decide +kernel
theorem dX9_lastOf_4 : decode cX9_lastOf 4 = .ok (.aload_n 0, 1) := by decide +kernel
theorem dX9_lastOf_5 : decode cX9_lastOf 5 = .ok (.getfield 19, 3) := by decide +kernel
theorem dX9_lastOf_8 : decode cX9_lastOf 8 = .ok (.getfield 86, 3) := by decide +kernel
theorem dX9_lastOf_11 : decode cX9_lastOf 11 = .ok (.aload_n 1, 1) := by decide +kernel
theorem dX9_lastOf_12 : decode cX9_lastOf 12 = .ok (.aload_n 0, 1) := by decide +kernel
theorem dX9_lastOf_13 : decode cX9_lastOf 13 = .ok (.getfield 19, 3) := by decide +kernel
theorem dX9_lastOf_16 : decode cX9_lastOf 16 = .ok (.getfield 129, 3) := by decide +kernel
theorem dX9_lastOf_19 : decode cX9_lastOf 19 = .ok (.iload_n 2, 1) := by decide +kernel
theorem dX9_lastOf_20 : decode cX9_lastOf 20 = .ok (.iload_n 3, 1) := by decide +kernel
theorem dX9_lastOf_21 : decode cX9_lastOf 21 = .ok (.invokevirtual 174, 3) := by decide +kernel
theorem dX9_lastOf_24 : decode cX9_lastOf 24 = .ok (.aload_n 0, 1) := by decide +kernel
theorem dX9_lastOf_25 : decode cX9_lastOf 25 = .ok (.getfield 48, 3) := by decide +kernel
theorem dX9_lastOf_28 : decode cX9_lastOf 28 = .ok (.aload_n 1, 1) := by decide +kernel
theorem dX9_lastOf_29 : decode cX9_lastOf 29 = .ok (.getfield 178, 3) := by decide +kernel
theorem dX9_lastOf_32 : decode cX9_lastOf 32 = .ok (.invokevirtual 181, 3) := by decide +kernel
theorem dX9_lastOf_35 : decode cX9_lastOf 35 = .ok (.ireturn, 1) := by decide +kernel
theorem dX9_apply_0 : decode cX9_apply 0 = .ok (.aload_n 0, 1) := by decide +kernel
theorem dX9_apply_1 : decode cX9_apply 1 = .ok (.getfield 55, 3) := by decide +kernel
theorem dX9_apply_4 : decode cX9_apply 4 = .ok (.aload_n 0, 1) := by decide +kernel
theorem dX9_apply_5 : decode cX9_apply 5 = .ok (.getfield 19, 3) := by decide +kernel
theorem dX9_apply_8 : decode cX9_apply 8 = .ok (.getfield 86, 3) := by decide +kernel
theorem dX9_apply_11 : decode cX9_apply 11 = .ok (.invokevirtual 93, 3) := by decide +kernel
theorem dX9_apply_14 : decode cX9_apply 14 = .ok (.iconst 0, 1) := by decide +kernel
theorem dX9_apply_15 : decode cX9_apply 15 = .ok (.istore_n 2, 1) := by decide +kernel
theorem dX9_apply_16 : decode cX9_apply 16 = .ok (.iload_n 2, 1) := by decide +kernel
theorem dX9_apply_17 : decode cX9_apply 17 = .ok (.aload_n 0, 1) := by decide +kernel
theorem dX9_apply_18 : decode cX9_apply 18 = .ok (.getfield 19, 3) := by decide +kernel
theorem dX9_apply_21 : decode cX9_apply 21 = .ok (.getfield 86, 3) := by decide +kernel
theorem dX9_apply_24 : decode cX9_apply 24 = .ok (.getfield 102, 3) := by decide +kernel
theorem dX9_apply_27 : decode cX9_apply 27 = .ok (.if_icmp .ge 62, 3) := by decide +kernel
theorem dX9_apply_30 : decode cX9_apply 30 = .ok (.iconst 0, 1) := by decide +kernel
theorem dX9_apply_31 : decode cX9_apply 31 = .ok (.istore_n 3, 1) := by decide +kernel
theorem dX9_apply_32 : decode cX9_apply 32 = .ok (.iload_n 3, 1) := by decide +kernel
theorem dX9_apply_33 : decode cX9_apply 33 = .ok (.aload_n 0, 1) := by decide +kernel
theorem dX9_apply_34 : decode cX9_apply 34 = .ok (.getfield 19, 3) := by decide +kernel
theorem dX9_apply_37 : decode cX9_apply 37 = .ok (.getfield 86, 3) := by decide +kernel
theorem dX9_apply_40 : decode cX9_apply 40 = .ok (.getfield 99, 3) := by decide +kernel
theorem dX9_apply_43 : decode cX9_apply 43 = .ok (.if_icmp .ge 40, 3) := by decide +kernel
theorem dX9_apply_46 : decode cX9_apply 46 = .ok (.aload_n 0, 1) := by decide +kernel
theorem dX9_apply_47 : decode cX9_apply 47 = .ok (.getfield 19, 3) := by decide +kernel
theorem dX9_apply_50 : decode cX9_apply 50 = .ok (.getfield 86, 3) := by decide +kernel
theorem dX9_apply_53 : decode cX9_apply 53 = .ok (.iload_n 3, 1) := by decide +kernel
theorem dX9_apply_54 : decode cX9_apply 54 = .ok (.iload_n 2, 1) := by decide +kernel
theorem dX9_apply_55 : decode cX9_apply 55 = .ok (.invokevirtual 146, 3) := by decide +kernel
theorem dX9_apply_58 : decode cX9_apply 58 = .ok (.ifCond .ne 19, 3) := by decide +kernel
theorem dX9_apply_61 : decode cX9_apply 61 = .ok (.aload_n 0, 1) := by decide +kernel
theorem dX9_apply_62 : decode cX9_apply 62 = .ok (.getfield 55, 3) := by decide +kernel
theorem dX9_apply_65 : decode cX9_apply 65 = .ok (.iload_n 3, 1) := by decide +kernel
theorem dX9_apply_66 : decode cX9_apply 66 = .ok (.iload_n 2, 1) := by decide +kernel
theorem dX9_apply_67 : decode cX9_apply 67 = .ok (.aload_n 0, 1) := by decide +kernel
theorem dX9_apply_68 : decode cX9_apply 68 = .ok (.aload_n 1, 1) := by decide +kernel
theorem dX9_apply_69 : decode cX9_apply 69 = .ok (.iload_n 3, 1) := by decide +kernel
theorem dX9_apply_70 : decode cX9_apply 70 = .ok (.iload_n 2, 1) := by decide +kernel
theorem dX9_apply_71 : decode cX9_apply 71 = .ok (.invokevirtual 193, 3) := by decide +kernel
theorem dX9_apply_74 : decode cX9_apply 74 = .ok (.invokevirtual 202, 3) := by decide +kernel
theorem dX9_apply_77 : decode cX9_apply 77 = .ok (.iinc 3 1, 3) := by decide +kernel
theorem dX9_apply_80 : decode cX9_apply 80 = .ok (.goto (-48), 3) := by decide +kernel
theorem dX9_apply_83 : decode cX9_apply 83 = .ok (.iinc 2 1, 3) := by decide +kernel
theorem dX9_apply_86 : decode cX9_apply 86 = .ok (.goto (-70), 3) := by decide +kernel
theorem dX9_apply_89 : decode cX9_apply 89 = .ok (.aload_n 0, 1) := by decide +kernel
theorem dX9_apply_90 : decode cX9_apply 90 = .ok (.getfield 19, 3) := by decide +kernel
theorem dX9_apply_93 : decode cX9_apply 93 = .ok (.getfield 86, 3) := by decide +kernel
theorem dX9_apply_96 : decode cX9_apply 96 = .ok (.aload_n 0, 1) := by decide +kernel
theorem dX9_apply_97 : decode cX9_apply 97 = .ok (.getfield 55, 3) := by decide +kernel
theorem dX9_apply_100 : decode cX9_apply 100 = .ok (.invokevirtual 218, 3) := by decide +kernel
theorem dX9_apply_103 : decode cX9_apply 103 = .ok (.istore_n 2, 1) := by decide +kernel
theorem dX9_apply_104 : decode cX9_apply 104 = .ok (.aload_n 0, 1) := by decide +kernel
theorem dX9_apply_105 : decode cX9_apply 105 = .ok (.getfield 19, 3) := by decide +kernel
theorem dX9_apply_108 : decode cX9_apply 108 = .ok (.getfield 86, 3) := by decide +kernel
theorem dX9_apply_111 : decode cX9_apply 111 = .ok (.aload_n 0, 1) := by decide +kernel
theorem dX9_apply_112 : decode cX9_apply 112 = .ok (.getfield 55, 3) := by decide +kernel
theorem dX9_apply_115 : decode cX9_apply 115 = .ok (.invokevirtual 93, 3) := by decide +kernel
theorem dX9_apply_118 : decode cX9_apply 118 = .ok (.iload_n 2, 1) := by decide +kernel
theorem dX9_apply_119 : decode cX9_apply 119 = .ok (.ireturn, 1) := by decide +kernel
theorem dJ9_floorMod_7cf53_0 : decode cJ9_floorMod_7cf53 0 = .ok (.iload_n 0, 1) := by decide +kernel
theorem dJ9_floorMod_7cf53_1 : decode cJ9_floorMod_7cf53 1 = .ok (.iload_n 1, 1) := by decide +kernel
theorem dJ9_floorMod_7cf53_2 : decode cJ9_floorMod_7cf53 2 = .ok (.irem, 1) := by decide +kernel
theorem dJ9_floorMod_7cf53_3 : decode cJ9_floorMod_7cf53 3 = .ok (.istore_n 2, 1) := by decide +kernel
theorem dJ9_floorMod_7cf53_4 : decode cJ9_floorMod_7cf53 4 = .ok (.iload_n 0, 1) := by decide +kernel
theorem dJ9_floorMod_7cf53_5 : decode cJ9_floorMod_7cf53 5 = .ok (.iload_n 1, 1) := by decide +kernel
theorem dJ9_floorMod_7cf53_6 : decode cJ9_floorMod_7cf53 6 = .ok (.ixor, 1) := by decide +kernel
theorem dJ9_floorMod_7cf53_7 : decode cJ9_floorMod_7cf53 7 = .ok (.ifCond .ge 11, 3) := by decide +kernel
theorem dJ9_floorMod_7cf53_10 : decode cJ9_floorMod_7cf53 10 = .ok (.iload_n 2, 1) := by decide +kernel
theorem dJ9_floorMod_7cf53_11 : decode cJ9_floorMod_7cf53 11 = .ok (.ifCond .eq 7, 3) := by decide +kernel
theorem dJ9_floorMod_7cf53_14 : decode cJ9_floorMod_7cf53 14 = .ok (.iload_n 2, 1) := by decide +kernel
theorem dJ9_floorMod_7cf53_15 : decode cJ9_floorMod_7cf53 15 = .ok (.iload_n 1, 1) := by decide +kernel
theorem dJ9_floorMod_7cf53_16 : decode cJ9_floorMod_7cf53 16 = .ok (.iadd, 1) := by decide +kernel
theorem dJ9_floorMod_7cf53_17 : decode cJ9_floorMod_7cf53 17 = .ok (.ireturn, 1) := by decide +kernel
theorem dJ9_floorMod_7cf53_18 : decode cJ9_floorMod_7cf53 18 = .ok (.iload_n 2, 1) := by decide +kernel
theorem dJ9_floorMod_7cf53_19 : decode cJ9_floorMod_7cf53 19 = .ok (.ireturn, 1) := by decide +kernel
theorem dJ9_abs_0f7a4_0 : decode cJ9_abs_0f7a4 0 = .ok (.iload_n 0, 1) := by decide +kernel
theorem dJ9_abs_0f7a4_1 : decode cJ9_abs_0f7a4 1 = .ok (.ifCond .ge 8, 3) := by decide +kernel
theorem dJ9_abs_0f7a4_4 : decode cJ9_abs_0f7a4 4 = .ok (.iload_n 0, 1) := by decide +kernel
theorem dJ9_abs_0f7a4_5 : decode cJ9_abs_0f7a4 5 = .ok (.ineg, 1) := by decide +kernel
theorem dJ9_abs_0f7a4_6 : decode cJ9_abs_0f7a4 6 = .ok (.goto 4, 3) := by decide +kernel
theorem dJ9_abs_0f7a4_9 : decode cJ9_abs_0f7a4 9 = .ok (.iload_n 0, 1) := by decide +kernel
theorem dJ9_abs_0f7a4_10 : decode cJ9_abs_0f7a4 10 = .ok (.ireturn, 1) := by decide +kernel
theorem dJ9_min_7cf53_0 : decode cJ9_min_7cf53 0 = .ok (.iload_n 0, 1) := by decide +kernel
theorem dJ9_min_7cf53_1 : decode cJ9_min_7cf53 1 = .ok (.iload_n 1, 1) := by decide +kernel
theorem dJ9_min_7cf53_2 : decode cJ9_min_7cf53 2 = .ok (.if_icmp .gt 7, 3) := by decide +kernel
theorem dJ9_min_7cf53_5 : decode cJ9_min_7cf53 5 = .ok (.iload_n 0, 1) := by decide +kernel
theorem dJ9_min_7cf53_6 : decode cJ9_min_7cf53 6 = .ok (.goto 4, 3) := by decide +kernel
theorem dJ9_min_7cf53_9 : decode cJ9_min_7cf53 9 = .ok (.iload_n 1, 1) := by decide +kernel
theorem dJ9_min_7cf53_10 : decode cJ9_min_7cf53 10 = .ok (.ireturn, 1) := by decide +kernel
theorem dJ7_fill_53178_0 : decode cJ7_fill_53178 0 = .ok (.iconst 0, 1) := by decide +kernel
theorem dJ7_fill_53178_1 : decode cJ7_fill_53178 1 = .ok (.istore_n 2, 1) := by decide +kernel
theorem dJ7_fill_53178_2 : decode cJ7_fill_53178 2 = .ok (.aload_n 0, 1) := by decide +kernel
theorem dJ7_fill_53178_3 : decode cJ7_fill_53178 3 = .ok (.arraylength, 1) := by decide +kernel
theorem dJ7_fill_53178_4 : decode cJ7_fill_53178 4 = .ok (.istore_n 3, 1) := by decide +kernel
theorem dJ7_fill_53178_5 : decode cJ7_fill_53178 5 = .ok (.iload_n 2, 1) := by decide +kernel
theorem dJ7_fill_53178_6 : decode cJ7_fill_53178 6 = .ok (.iload_n 3, 1) := by decide +kernel
theorem dJ7_fill_53178_7 : decode cJ7_fill_53178 7 = .ok (.if_icmp .ge 13, 3) := by decide +kernel
theorem dJ7_fill_53178_10 : decode cJ7_fill_53178 10 = .ok (.aload_n 0, 1) := by decide +kernel
theorem dJ7_fill_53178_11 : decode cJ7_fill_53178 11 = .ok (.iload_n 2, 1) := by decide +kernel
theorem dJ7_fill_53178_12 : decode cJ7_fill_53178 12 = .ok (.iload_n 1, 1) := by decide +kernel
theorem dJ7_fill_53178_13 : decode cJ7_fill_53178 13 = .ok (.iastore, 1) := by decide +kernel
theorem dJ7_fill_53178_14 : decode cJ7_fill_53178 14 = .ok (.iinc 2 1, 3) := by decide +kernel
theorem dJ7_fill_53178_17 : decode cJ7_fill_53178 17 = .ok (.goto (-12), 3) := by decide +kernel
theorem dJ7_fill_53178_20 : decode cJ7_fill_53178 20 = .ok (.return_, 1) := by decide +kernel
