theorem dX0_init_0 : decode cX0_init 0 = .ok (.aload_n 0, 1) := by decide +kernel
theorem dX0_init_1 : decode cX0_init 1 = .ok (.invokespecial 3, 3) := by decide +kernel
theorem dX0_init_4 : decode cX0_init 4 = .ok (.aload_n 0, 1) := by decide +kernel
theorem dX0_init_5 : decode cX0_init 5 = .ok (.iconst 0, 1) := by decide +kernel
theorem dX0_init_6 : decode cX0_init 6 = .ok (.putfield 9, 3) := by decide +kernel
theorem dX0_init_9 : decode cX0_init 9 = .ok (.aload_n 0, 1) := by decide +kernel
theorem dX0_init_10 : decode cX0_init 10 = .ok (.iconst 0, 1) := by decide +kernel
theorem dX0_init_11 : decode cX0_init 11 = .ok (.putfield 15, 3) := by decide +kernel
theorem dX0_init_14 : decode cX0_init 14 = .ok (.aload_n 0, 1) := by decide +kernel
theorem dX0_init_15 : decode cX0_init 15 = .ok (.iconst (-1), 1) := by decide +kernel
theorem dX0_init_16 : decode cX0_init 16 = .ok (.putfield 18, 3) := by decide +kernel
theorem dX0_init_19 : decode cX0_init 19 = .ok (.aload_n 0, 1) := by decide +kernel
theorem dX0_init_20 : decode cX0_init 20 = .ok (.iconst 0, 1) := by decide +kernel
theorem dX0_init_21 : decode cX0_init 21 = .ok (.putfield 21, 3) := by decide +kernel
theorem dX0_init_24 : decode cX0_init 24 = .ok (.aload_n 0, 1) := by decide +kernel
theorem dX0_init_25 : decode cX0_init 25 = .ok (.iconst (-1), 1) := by decide +kernel
theorem dX0_init_26 : decode cX0_init 26 = .ok (.putfield 25, 3) := by decide +kernel
theorem dX0_init_29 : decode cX0_init 29 = .ok (.aload_n 0, 1) := by decide +kernel
theorem dX0_init_30 : decode cX0_init 30 = .ok (.iconst 0, 1) := by decide +kernel
theorem dX0_init_31 : decode cX0_init 31 = .ok (.putfield 28, 3) := by decide +kernel
theorem dX0_init_34 : decode cX0_init 34 = .ok (.aload_n 0, 1) := by decide +kernel
theorem dX0_init_35 : decode cX0_init 35 = .ok (.iconst 0, 1) := by decide +kernel
theorem dX0_init_36 : decode cX0_init 36 = .ok (.putfield 31, 3) := by decide +kernel
theorem dX0_init_39 : decode cX0_init 39 = .ok (.aload_n 0, 1) := by decide +kernel
theorem dX0_init_40 : decode cX0_init 40 = .ok (.iconst 0, 1) := by decide +kernel
theorem dX0_init_41 : decode cX0_init 41 = .ok (.putfield 34, 3) := by decide +kernel
theorem dX0_init_44 : decode cX0_init 44 = .ok (.return_, 1) := by decide +kernel
theorem dX0_appear_0 : decode cX0_appear 0 = .ok (.aload_n 0, 1) := by decide +kernel
theorem dX0_appear_1 : decode cX0_appear 1 = .ok (.iconst 1, 1) := by decide +kernel
theorem dX0_appear_2 : decode cX0_appear 2 = .ok (.putfield 9, 3) := by decide +kernel
theorem dX0_appear_5 : decode cX0_appear 5 = .ok (.aload_n 0, 1) := by decide +kernel
theorem dX0_appear_6 : decode cX0_appear 6 = .ok (.iload_n 1, 1) := by decide +kernel
theorem dX0_appear_7 : decode cX0_appear 7 = .ok (.putfield 15, 3) := by decide +kernel
theorem dX0_appear_10 : decode cX0_appear 10 = .ok (.aload_n 0, 1) := by decide +kernel
theorem dX0_appear_11 : decode cX0_appear 11 = .ok (.iload_n 2, 1) := by decide +kernel
theorem dX0_appear_12 : decode cX0_appear 12 = .ok (.putfield 25, 3) := by decide +kernel
theorem dX0_appear_15 : decode cX0_appear 15 = .ok (.aload_n 0, 1) := by decide +kernel
theorem dX0_appear_16 : decode cX0_appear 16 = .ok (.iload_n 3, 1) := by decide +kernel
theorem dX0_appear_17 : decode cX0_appear 17 = .ok (.putfield 28, 3) := by decide +kernel
theorem dX0_appear_20 : decode cX0_appear 20 = .ok (.aload_n 0, 1) := by decide +kernel
theorem dX0_appear_21 : decode cX0_appear 21 = .ok (.iload 4, 2) := by decide +kernel
theorem dX0_appear_23 : decode cX0_appear 23 = .ok (.putfield 31, 3) := by decide +kernel
theorem dX0_appear_26 : decode cX0_appear 26 = .ok (.aload_n 0, 1) := by decide +kernel
theorem dX0_appear_27 : decode cX0_appear 27 = .ok (.iconst 0, 1) := by decide +kernel
theorem dX0_appear_28 : decode cX0_appear 28 = .ok (.putfield 34, 3) := by decide +kernel
theorem dX0_appear_31 : decode cX0_appear 31 = .ok (.aload_n 0, 1) := by decide +kernel
theorem dX0_appear_32 : decode cX0_appear 32 = .ok (.iconst (-1), 1) := by decide +kernel
theorem dX0_appear_33 : decode cX0_appear 33 = .ok (.iconst 0, 1) := by decide +kernel
theorem dX0_appear_34 : decode cX0_appear 34 = .ok (.invokevirtual 37, 3) := by decide +kernel
theorem dX0_appear_37 : decode cX0_appear 37 = .ok (.return_, 1) := by decide +kernel
theorem dX0_pointTo_0 : decode cX0_pointTo 0 = .ok (.aload_n 0, 1) := by decide +kernel
theorem dX0_pointTo_1 : decode cX0_pointTo 1 = .ok (.iload_n 1, 1) := by decide +kernel
theorem dX0_pointTo_2 : decode cX0_pointTo 2 = .ok (.putfield 18, 3) := by decide +kernel
theorem dX0_pointTo_5 : decode cX0_pointTo 5 = .ok (.aload_n 0, 1) := by decide +kernel
theorem dX0_pointTo_6 : decode cX0_pointTo 6 = .ok (.iload_n 2, 1) := by decide +kernel
theorem dX0_pointTo_7 : decode cX0_pointTo 7 = .ok (.putfield 21, 3) := by decide +kernel
theorem dX0_pointTo_10 : decode cX0_pointTo 10 = .ok (.return_, 1) := by decide +kernel
theorem dX1_init_0 : decode cX1_init 0 = .ok (.aload_n 0, 1) := by decide +kernel
theorem dX1_init_1 : decode cX1_init 1 = .ok (.invokespecial 3, 3) := by decide +kernel
theorem dX1_init_4 : decode cX1_init 4 = .ok (.aload_n 0, 1) := by decide +kernel
theorem dX1_init_5 : decode cX1_init 5 = .ok (.iconst 0, 1) := by decide +kernel
theorem dX1_init_6 : decode cX1_init 6 = .ok (.putfield 9, 3) := by decide +kernel
theorem dX1_init_9 : decode cX1_init 9 = .ok (.aload_n 0, 1) := by decide +kernel
theorem dX1_init_10 : decode cX1_init 10 = .ok (.iload_n 1, 1) := by decide +kernel
theorem dX1_init_11 : decode cX1_init 11 = .ok (.newarray .int, 2) := by decide +kernel
theorem dX1_init_13 : decode cX1_init 13 = .ok (.putfield 15, 3) := by decide +kernel
theorem dX1_init_16 : decode cX1_init 16 = .ok (.return_, 1) := by decide +kernel
theorem dX1_isEmpty_0 : decode cX1_isEmpty 0 = .ok (.aload_n 0, 1) := by decide +kernel
theorem dX1_isEmpty_1 : decode cX1_isEmpty 1 = .ok (.getfield 9, 3) := by decide +kernel
theorem dX1_isEmpty_4 : decode cX1_isEmpty 4 = .ok (.ifCond .ne 7, 3) := by decide +kernel
theorem dX1_isEmpty_7 : decode cX1_isEmpty 7 = .ok (.iconst 1, 1) := by decide +kernel
theorem dX1_isEmpty_8 : decode cX1_isEmpty 8 = .ok (.goto 4, 3) := by decide +kernel
theorem dX1_isEmpty_11 : decode cX1_isEmpty 11 = .ok (.iconst 0, 1) := by decide +kernel
theorem dX1_isEmpty_12 : decode cX1_isEmpty 12 = .ok (.ireturn, 1) := by decide +kernel
theorem dX1_add_0 : decode cX1_add 0 = .ok (.aload_n 0, 1) := by decide +kernel
theorem dX1_add_1 : decode cX1_add 1 = .ok (.getfield 9, 3) := by decide +kernel
theorem dX1_add_4 : decode cX1_add 4 = .ok (.aload_n 0, 1) := by decide +kernel
theorem dX1_add_5 : decode cX1_add 5 = .ok (.getfield 15, 3) := by decide +kernel
theorem dX1_add_8 : decode cX1_add 8 = .ok (.arraylength, 1) := by decide +kernel
theorem dX1_add_9 : decode cX1_add 9 = .ok (.if_icmp .ge 23, 3) := by decide +kernel
theorem dX1_add_12 : decode cX1_add 12 = .ok (.aload_n 0, 1) := by decide +kernel
theorem dX1_add_13 : decode cX1_add 13 = .ok (.getfield 15, 3) := by decide +kernel
theorem dX1_add_16 : decode cX1_add 16 = .ok (.aload_n 0, 1) := by decide +kernel
theorem dX1_add_17 : decode cX1_add 17 = .ok (.getfield 9, 3) := by decide +kernel
theorem dX1_add_20 : decode cX1_add 20 = .ok (.iload_n 1, 1) := by decide +kernel
theorem dX1_add_21 : decode cX1_add 21 = .ok (.iastore, 1) := by decide +kernel
theorem dX1_add_22 : decode cX1_add 22 = .ok (.aload_n 0, 1) := by decide +kernel
theorem dX1_add_23 : decode cX1_add 23 = .ok (.dup, 1) := by decide +kernel
theorem dX1_add_24 : decode cX1_add 24 = .ok (.getfield 9, 3) := by decide +kernel
theorem dX1_add_27 : decode cX1_add 27 = .ok (.iconst 1, 1) := by decide +kernel
theorem dX1_add_28 : decode cX1_add 28 = .ok (.iadd, 1) := by decide +kernel
theorem dX1_add_29 : decode cX1_add 29 = .ok (.putfield 9, 3) := by decide +kernel
theorem dX1_add_32 : decode cX1_add 32 = .ok (.return_, 1) := by decide +kernel
theorem dX1_at_0 : decode cX1_at 0 = .ok (.iload_n 1, 1) := by decide +kernel
theorem dX1_at_1 : decode cX1_at 1 = .ok (.ifCond .lt 20, 3) := by decide +kernel
theorem dX1_at_4 : decode cX1_at 4 = .ok (.iload_n 1, 1) := by decide +kernel
theorem dX1_at_5 : decode cX1_at 5 = .ok (.aload_n 0, 1) := by decide +kernel
theorem dX1_at_6 : decode cX1_at 6 = .ok (.getfield 9, 3) := by decide +kernel
theorem dX1_at_9 : decode cX1_at 9 = .ok (.if_icmp .ge 12, 3) := by decide +kernel
theorem dX1_at_12 : decode cX1_at 12 = .ok (.aload_n 0, 1) := by decide +kernel
theorem dX1_at_13 : decode cX1_at 13 = .ok (.getfield 15, 3) := by decide +kernel
theorem dX1_at_16 : decode cX1_at 16 = .ok (.iload_n 1, 1) := by decide +kernel
theorem dX1_at_17 : decode cX1_at 17 = .ok (.iaload, 1) := by decide +kernel
theorem dX1_at_18 : decode cX1_at 18 = .ok (.goto 4, 3) := by decide +kernel
theorem dX1_at_21 : decode cX1_at 21 = .ok (.iconst (-1), 1) := by decide +kernel
theorem dX1_at_22 : decode cX1_at 22 = .ok (.ireturn, 1) := by decide +kernel
theorem dX1_put_0 : decode cX1_put 0 = .ok (.iload_n 1, 1) := by decide +kernel
theorem dX1_put_1 : decode cX1_put 1 = .ok (.ifCond .lt 18, 3) := by decide +kernel
theorem dX1_put_4 : decode cX1_put 4 = .ok (.iload_n 1, 1) := by decide +kernel
theorem dX1_put_5 : decode cX1_put 5 = .ok (.aload_n 0, 1) := by decide +kernel
theorem dX1_put_6 : decode cX1_put 6 = .ok (.getfield 9, 3) := by decide +kernel
theorem dX1_put_9 : decode cX1_put 9 = .ok (.if_icmp .ge 10, 3) := by decide +kernel
theorem dX1_put_12 : decode cX1_put 12 = .ok (.aload_n 0, 1) := by decide +kernel
theorem dX1_put_13 : decode cX1_put 13 = .ok (.getfield 15, 3) := by decide +kernel
theorem dX1_put_16 : decode cX1_put 16 = .ok (.iload_n 1, 1) := by decide +kernel
theorem dX1_put_17 : decode cX1_put 17 = .ok (.iload_n 2, 1) := by decide +kernel
theorem dX1_put_18 : decode cX1_put 18 = .ok (.iastore, 1) := by decide +kernel
theorem dX1_put_19 : decode cX1_put 19 = .ok (.return_, 1) := by decide +kernel
theorem dX1_top_0 : decode cX1_top 0 = .ok (.aload_n 0, 1) := by decide +kernel
theorem dX1_top_1 : decode cX1_top 1 = .ok (.aload_n 0, 1) := by decide +kernel
theorem dX1_top_2 : decode cX1_top 2 = .ok (.getfield 9, 3) := by decide +kernel
theorem dX1_top_5 : decode cX1_top 5 = .ok (.iconst 1, 1) := by decide +kernel
theorem dX1_top_6 : decode cX1_top 6 = .ok (.isub, 1) := by decide +kernel
theorem dX1_top_7 : decode cX1_top 7 = .ok (.invokevirtual 19, 3) := by decide +kernel
theorem dX1_top_10 : decode cX1_top 10 = .ok (.ireturn, 1) := by decide +kernel
theorem dX1_dropTop_0 : decode cX1_dropTop 0 = .ok (.aload_n 0, 1) := by decide +kernel
theorem dX1_dropTop_1 : decode cX1_dropTop 1 = .ok (.aload_n 0, 1) := by decide +kernel
theorem dX1_dropTop_2 : decode cX1_dropTop 2 = .ok (.getfield 9, 3) := by decide +kernel
theorem dX1_dropTop_5 : decode cX1_dropTop 5 = .ok (.iconst 1, 1) := by decide +kernel
theorem dX1_dropTop_6 : decode cX1_dropTop 6 = .ok (.isub, 1) := by decide +kernel
theorem dX1_dropTop_7 : decode cX1_dropTop 7 = .ok (.invokevirtual 23, 3) := by decide +kernel
theorem dX1_dropTop_10 : decode cX1_dropTop 10 = .ok (.return_, 1) := by decide +kernel
theorem dX1_cutTo_0 : decode cX1_cutTo 0 = .ok (.iload_n 1, 1) := by decide +kernel
theorem dX1_cutTo_1 : decode cX1_cutTo 1 = .ok (.ifCond .lt 16, 3) := by decide +kernel
theorem dX1_cutTo_4 : decode cX1_cutTo 4 = .ok (.iload_n 1, 1) := by decide +kernel
theorem dX1_cutTo_5 : decode cX1_cutTo 5 = .ok (.aload_n 0, 1) := by decide +kernel
theorem dX1_cutTo_6 : decode cX1_cutTo 6 = .ok (.getfield 9, 3) := by decide +kernel
theorem dX1_cutTo_9 : decode cX1_cutTo 9 = .ok (.if_icmp .ge 8, 3) := by decide +kernel
theorem dX1_cutTo_12 : decode cX1_cutTo 12 = .ok (.aload_n 0, 1) := by decide +kernel
theorem dX1_cutTo_13 : decode cX1_cutTo 13 = .ok (.iload_n 1, 1) := by decide +kernel
theorem dX1_cutTo_14 : decode cX1_cutTo 14 = .ok (.putfield 9, 3) := by decide +kernel
theorem dX1_cutTo_17 : decode cX1_cutTo 17 = .ok (.return_, 1) := by decide +kernel
theorem dX2_init_0 : decode cX2_init 0 = .ok (.aload_n 0, 1) := by decide +kernel
theorem dX2_init_1 : decode cX2_init 1 = .ok (.invokespecial 3, 3) := by decide +kernel
theorem dX2_init_4 : decode cX2_init 4 = .ok (.aload_n 0, 1) := by decide +kernel
theorem dX2_init_5 : decode cX2_init 5 = .ok (.iconst 0, 1) := by decide +kernel
theorem dX2_init_6 : decode cX2_init 6 = .ok (.putfield 9, 3) := by decide +kernel
theorem dX2_init_9 : decode cX2_init 9 = .ok (.aload_n 0, 1) := by decide +kernel
theorem dX2_init_10 : decode cX2_init 10 = .ok (.iconst 0, 1) := by decide +kernel
theorem dX2_init_11 : decode cX2_init 11 = .ok (.putfield 15, 3) := by decide +kernel
theorem dX2_init_14 : decode cX2_init 14 = .ok (.aload_n 0, 1) := by decide +kernel
theorem dX2_init_15 : decode cX2_init 15 = .ok (.iconst 0, 1) := by decide +kernel
theorem dX2_init_16 : decode cX2_init 16 = .ok (.putfield 18, 3) := by decide +kernel
theorem dX2_init_19 : decode cX2_init 19 = .ok (.aload_n 0, 1) := by decide +kernel
theorem dX2_init_20 : decode cX2_init 20 = .ok (.iconst 0, 1) := by decide +kernel
theorem dX2_init_21 : decode cX2_init 21 = .ok (.putfield 21, 3) := by decide +kernel
theorem dX2_init_24 : decode cX2_init 24 = .ok (.aload_n 0, 1) := by decide +kernel
theorem dX2_init_25 : decode cX2_init 25 = .ok (.iconst 0, 1) := by decide +kernel
theorem dX2_init_26 : decode cX2_init 26 = .ok (.putfield 24, 3) := by decide +kernel
theorem dX2_init_29 : decode cX2_init 29 = .ok (.aload_n 0, 1) := by decide +kernel
theorem dX2_init_30 : decode cX2_init 30 = .ok (.iconst 0, 1) := by decide +kernel
theorem dX2_init_31 : decode cX2_init 31 = .ok (.putfield 27, 3) := by decide +kernel
theorem dX2_init_34 : decode cX2_init 34 = .ok (.aload_n 0, 1) := by decide +kernel
theorem dX2_init_35 : decode cX2_init 35 = .ok (.iconst 0, 1) := by decide +kernel
theorem dX2_init_36 : decode cX2_init 36 = .ok (.putfield 30, 3) := by decide +kernel
theorem dX2_init_39 : decode cX2_init 39 = .ok (.aload_n 0, 1) := by decide +kernel
theorem dX2_init_40 : decode cX2_init 40 = .ok (.new 33, 3) := by decide +kernel
theorem dX2_init_43 : decode cX2_init 43 = .ok (.dup, 1) := by decide +kernel
theorem dX2_init_44 : decode cX2_init 44 = .ok (.iconst 4, 1) := by decide +kernel
theorem dX2_init_45 : decode cX2_init 45 = .ok (.invokespecial 35, 3) := by decide +kernel
theorem dX2_init_48 : decode cX2_init 48 = .ok (.putfield 38, 3) := by decide +kernel
theorem dX2_init_51 : decode cX2_init 51 = .ok (.aload_n 0, 1) := by decide +kernel
theorem dX2_init_52 : decode cX2_init 52 = .ok (.iconst (-1), 1) := by decide +kernel
theorem dX2_init_53 : decode cX2_init 53 = .ok (.putfield 42, 3) := by decide +kernel
theorem dX2_init_56 : decode cX2_init 56 = .ok (.aload_n 0, 1) := by decide +kernel
theorem dX2_init_57 : decode cX2_init 57 = .ok (.iconst (-1), 1) := by decide +kernel
theorem dX2_init_58 : decode cX2_init 58 = .ok (.putfield 45, 3) := by decide +kernel
theorem dX2_init_61 : decode cX2_init 61 = .ok (.aload_n 0, 1) := by decide +kernel
theorem dX2_init_62 : decode cX2_init 62 = .ok (.iconst (-1), 1) := by decide +kernel
theorem dX2_init_63 : decode cX2_init 63 = .ok (.putfield 48, 3) := by decide +kernel
theorem dX2_init_66 : decode cX2_init 66 = .ok (.aload_n 0, 1) := by decide +kernel
theorem dX2_init_67 : decode cX2_init 67 = .ok (.iconst (-1), 1) := by decide +kernel
theorem dX2_init_68 : decode cX2_init 68 = .ok (.putfield 51, 3) := by decide +kernel
theorem dX2_init_71 : decode cX2_init 71 = .ok (.aload_n 0, 1) := by decide +kernel
theorem dX2_init_72 : decode cX2_init 72 = .ok (.iconst 0, 1) := by decide +kernel
theorem dX2_init_73 : decode cX2_init 73 = .ok (.putfield 54, 3) := by decide +kernel
theorem dX2_init_76 : decode cX2_init 76 = .ok (.aload_n 0, 1) := by decide +kernel
theorem dX2_init_77 : decode cX2_init 77 = .ok (.iconst (-1), 1) := by decide +kernel
theorem dX2_init_78 : decode cX2_init 78 = .ok (.putfield 58, 3) := by decide +kernel
theorem dX2_init_81 : decode cX2_init 81 = .ok (.aload_n 0, 1) := by decide +kernel
theorem dX2_init_82 : decode cX2_init 82 = .ok (.iconst (-1), 1) := by decide +kernel
theorem dX2_init_83 : decode cX2_init 83 = .ok (.putfield 61, 3) := by decide +kernel
theorem dX2_init_86 : decode cX2_init 86 = .ok (.aload_n 0, 1) := by decide +kernel
theorem dX2_init_87 : decode cX2_init 87 = .ok (.iconst 0, 1) := by decide +kernel
theorem dX2_init_88 : decode cX2_init 88 = .ok (.putfield 64, 3) := by decide +kernel
theorem dX2_init_91 : decode cX2_init 91 = .ok (.aload_n 0, 1) := by decide +kernel
theorem dX2_init_92 : decode cX2_init 92 = .ok (.iconst (-1), 1) := by decide +kernel
theorem dX2_init_93 : decode cX2_init 93 = .ok (.putfield 67, 3) := by decide +kernel
theorem dX2_init_96 : decode cX2_init 96 = .ok (.aload_n 0, 1) := by decide +kernel
theorem dX2_init_97 : decode cX2_init 97 = .ok (.iconst (-1), 1) := by decide +kernel
theorem dX2_init_98 : decode cX2_init 98 = .ok (.putfield 70, 3) := by decide +kernel
theorem dX2_init_101 : decode cX2_init 101 = .ok (.aload_n 0, 1) := by decide +kernel
theorem dX2_init_102 : decode cX2_init 102 = .ok (.new 33, 3) := by decide +kernel
theorem dX2_init_105 : decode cX2_init 105 = .ok (.dup, 1) := by decide +kernel
theorem dX2_init_106 : decode cX2_init 106 = .ok (.bipush 64, 2) := by decide +kernel
theorem dX2_init_108 : decode cX2_init 108 = .ok (.invokespecial 35, 3) := by decide +kernel
theorem dX2_init_111 : decode cX2_init 111 = .ok (.putfield 73, 3) := by decide +kernel
theorem dX2_init_114 : decode cX2_init 114 = .ok (.return_, 1) := by decide +kernel
theorem dX2_begin_0 : decode cX2_begin 0 = .ok (.aload_n 0, 1) := by decide +kernel
theorem dX2_begin_1 : decode cX2_begin 1 = .ok (.iload_n 1, 1) := by decide +kernel
theorem dX2_begin_2 : decode cX2_begin 2 = .ok (.putfield 15, 3) := by decide +kernel
theorem dX2_begin_5 : decode cX2_begin 5 = .ok (.aload_n 0, 1) := by decide +kernel
theorem dX2_begin_6 : decode cX2_begin 6 = .ok (.iload_n 2, 1) := by decide +kernel
theorem dX2_begin_7 : decode cX2_begin 7 = .ok (.putfield 18, 3) := by decide +kernel
theorem dX2_begin_10 : decode cX2_begin 10 = .ok (.aload_n 0, 1) := by decide +kernel
theorem dX2_begin_11 : decode cX2_begin 11 = .ok (.iload_n 3, 1) := by decide +kernel
theorem dX2_begin_12 : decode cX2_begin 12 = .ok (.putfield 21, 3) := by decide +kernel
theorem dX2_begin_15 : decode cX2_begin 15 = .ok (.aload_n 0, 1) := by decide +kernel
theorem dX2_begin_16 : decode cX2_begin 16 = .ok (.iconst 0, 1) := by decide +kernel
theorem dX2_begin_17 : decode cX2_begin 17 = .ok (.putfield 64, 3) := by decide +kernel
theorem dX2_begin_20 : decode cX2_begin 20 = .ok (.aload_n 0, 1) := by decide +kernel
theorem dX2_begin_21 : decode cX2_begin 21 = .ok (.iconst 1, 1) := by decide +kernel
theorem dX2_begin_22 : decode cX2_begin 22 = .ok (.putfield 9, 3) := by decide +kernel
theorem dX2_begin_25 : decode cX2_begin 25 = .ok (.return_, 1) := by decide +kernel
theorem dX2_rest_0 : decode cX2_rest 0 = .ok (.aload_n 0, 1) := by decide +kernel
theorem dX2_rest_1 : decode cX2_rest 1 = .ok (.iload_n 1, 1) := by decide +kernel
theorem dX2_rest_2 : decode cX2_rest 2 = .ok (.putfield 70, 3) := by decide +kernel
theorem dX2_rest_5 : decode cX2_rest 5 = .ok (.aload_n 0, 1) := by decide +kernel
theorem dX2_rest_6 : decode cX2_rest 6 = .ok (.iconst 0, 1) := by decide +kernel
theorem dX2_rest_7 : decode cX2_rest 7 = .ok (.putfield 24, 3) := by decide +kernel
theorem dX2_rest_10 : decode cX2_rest 10 = .ok (.aload_n 0, 1) := by decide +kernel
theorem dX2_rest_11 : decode cX2_rest 11 = .ok (.iconst 0, 1) := by decide +kernel
theorem dX2_rest_12 : decode cX2_rest 12 = .ok (.putfield 27, 3) := by decide +kernel
theorem dX2_rest_15 : decode cX2_rest 15 = .ok (.aload_n 0, 1) := by decide +kernel
theorem dX2_rest_16 : decode cX2_rest 16 = .ok (.getfield 38, 3) := by decide +kernel
theorem dX2_rest_19 : decode cX2_rest 19 = .ok (.iconst 0, 1) := by decide +kernel
theorem dX2_rest_20 : decode cX2_rest 20 = .ok (.invokevirtual 76, 3) := by decide +kernel
theorem dX2_rest_23 : decode cX2_rest 23 = .ok (.aload_n 0, 1) := by decide +kernel
theorem dX2_rest_24 : decode cX2_rest 24 = .ok (.iconst (-1), 1) := by decide +kernel
theorem dX2_rest_25 : decode cX2_rest 25 = .ok (.putfield 45, 3) := by decide +kernel
theorem dX2_rest_28 : decode cX2_rest 28 = .ok (.aload_n 0, 1) := by decide +kernel
theorem dX2_rest_29 : decode cX2_rest 29 = .ok (.iconst (-1), 1) := by decide +kernel
theorem dX2_rest_30 : decode cX2_rest 30 = .ok (.putfield 48, 3) := by decide +kernel
theorem dX2_rest_33 : decode cX2_rest 33 = .ok (.aload_n 0, 1) := by decide +kernel
theorem dX2_rest_34 : decode cX2_rest 34 = .ok (.iconst (-1), 1) := by decide +kernel
theorem dX2_rest_35 : decode cX2_rest 35 = .ok (.putfield 51, 3) := by decide +kernel
theorem dX2_rest_38 : decode cX2_rest 38 = .ok (.aload_n 0, 1) := by decide +kernel
theorem dX2_rest_39 : decode cX2_rest 39 = .ok (.iconst 0, 1) := by decide +kernel
theorem dX2_rest_40 : decode cX2_rest 40 = .ok (.putfield 9, 3) := by decide +kernel
theorem dX2_rest_43 : decode cX2_rest 43 = .ok (.return_, 1) := by decide +kernel
theorem dX3_init_0 : decode cX3_init 0 = .ok (.aload_n 0, 1) := by decide +kernel
theorem dX3_init_1 : decode cX3_init 1 = .ok (.invokespecial 1, 3) := by decide +kernel
theorem dX3_init_4 : decode cX3_init 4 = .ok (.aload_n 0, 1) := by decide +kernel
theorem dX3_init_5 : decode cX3_init 5 = .ok (.bipush 64, 2) := by decide +kernel
theorem dX3_init_7 : decode cX3_init 7 = .ok (.anewarray 9, 3) := by decide +kernel
theorem dX3_init_10 : decode cX3_init 10 = .ok (.putfield 11, 3) := by decide +kernel
theorem dX3_init_13 : decode cX3_init 13 = .ok (.aload_n 0, 1) := by decide +kernel
theorem dX3_init_14 : decode cX3_init 14 = .ok (.iconst 4, 1) := by decide +kernel
theorem dX3_init_15 : decode cX3_init 15 = .ok (.anewarray 15, 3) := by decide +kernel
theorem dX3_init_18 : decode cX3_init 18 = .ok (.putfield 17, 3) := by decide +kernel
theorem dX3_init_21 : decode cX3_init 21 = .ok (.aload_n 0, 1) := by decide +kernel
theorem dX3_init_22 : decode cX3_init 22 = .ok (.bipush 16, 2) := by decide +kernel
theorem dX3_init_24 : decode cX3_init 24 = .ok (.newarray .int, 2) := by decide +kernel
theorem dX3_init_26 : decode cX3_init 26 = .ok (.putfield 21, 3) := by decide +kernel
theorem dX3_init_29 : decode cX3_init 29 = .ok (.aload_n 0, 1) := by decide +kernel
theorem dX3_init_30 : decode cX3_init 30 = .ok (.iconst 1, 1) := by decide +kernel
theorem dX3_init_31 : decode cX3_init 31 = .ok (.putfield 25, 3) := by decide +kernel
theorem dX3_init_34 : decode cX3_init 34 = .ok (.aload_n 0, 1) := by decide +kernel
theorem dX3_init_35 : decode cX3_init 35 = .ok (.iconst 0, 1) := by decide +kernel
theorem dX3_init_36 : decode cX3_init 36 = .ok (.putfield 29, 3) := by decide +kernel
theorem dX3_init_39 : decode cX3_init 39 = .ok (.aload_n 0, 1) := by decide +kernel
theorem dX3_init_40 : decode cX3_init 40 = .ok (.iconst 1, 1) := by decide +kernel
theorem dX3_init_41 : decode cX3_init 41 = .ok (.putfield 32, 3) := by decide +kernel
theorem dX3_init_44 : decode cX3_init 44 = .ok (.iconst 0, 1) := by decide +kernel
theorem dX3_init_45 : decode cX3_init 45 = .ok (.istore_n 1, 1) := by decide +kernel
theorem dX3_init_46 : decode cX3_init 46 = .ok (.iload_n 1, 1) := by decide +kernel
theorem dX3_init_47 : decode cX3_init 47 = .ok (.bipush 64, 2) := by decide +kernel
theorem dX3_init_49 : decode cX3_init 49 = .ok (.if_icmp .ge 22, 3) := by decide +kernel
theorem dX3_init_52 : decode cX3_init 52 = .ok (.aload_n 0, 1) := by decide +kernel
theorem dX3_init_53 : decode cX3_init 53 = .ok (.getfield 11, 3) := by decide +kernel
theorem dX3_init_56 : decode cX3_init 56 = .ok (.iload_n 1, 1) := by decide +kernel
theorem dX3_init_57 : decode cX3_init 57 = .ok (.new 9, 3) := by decide +kernel
theorem dX3_init_60 : decode cX3_init 60 = .ok (.dup, 1) := by decide +kernel
theorem dX3_init_61 : decode cX3_init 61 = .ok (.invokespecial 35, 3) := by decide +kernel
theorem dX3_init_64 : decode cX3_init 64 = .ok (.aastore, 1) := by decide +kernel
theorem dX3_init_65 : decode cX3_init 65 = .ok (.iinc 1 1, 3) := by decide +kernel
theorem dX3_init_68 : decode cX3_init 68 = .ok (.goto (-22), 3) := by decide +kernel
theorem dX3_init_71 : decode cX3_init 71 = .ok (.iconst 0, 1) := by decide +kernel
theorem dX3_init_72 : decode cX3_init 72 = .ok (.istore_n 1, 1) := by decide +kernel
theorem dX3_init_73 : decode cX3_init 73 = .ok (.iload_n 1, 1) := by decide +kernel
theorem dX3_init_74 : decode cX3_init 74 = .ok (.iconst 4, 1) := by decide +kernel
theorem dX3_init_75 : decode cX3_init 75 = .ok (.if_icmp .ge 22, 3) := by decide +kernel
theorem dX3_init_78 : decode cX3_init 78 = .ok (.aload_n 0, 1) := by decide +kernel
theorem dX3_init_79 : decode cX3_init 79 = .ok (.getfield 17, 3) := by decide +kernel
theorem dX3_init_82 : decode cX3_init 82 = .ok (.iload_n 1, 1) := by decide +kernel
theorem dX3_init_83 : decode cX3_init 83 = .ok (.new 15, 3) := by decide +kernel
theorem dX3_init_86 : decode cX3_init 86 = .ok (.dup, 1) := by decide +kernel
theorem dX3_init_87 : decode cX3_init 87 = .ok (.invokespecial 36, 3) := by decide +kernel
theorem dX3_init_90 : decode cX3_init 90 = .ok (.aastore, 1) := by decide +kernel
theorem dX3_init_91 : decode cX3_init 91 = .ok (.iinc 1 1, 3) := by decide +kernel
theorem dX3_init_94 : decode cX3_init 94 = .ok (.goto (-21), 3) := by decide +kernel
theorem dX3_init_97 : decode cX3_init 97 = .ok (.iconst 0, 1) := by decide +kernel
theorem dX3_init_98 : decode cX3_init 98 = .ok (.istore_n 1, 1) := by decide +kernel
theorem dX3_init_99 : decode cX3_init 99 = .ok (.iload_n 1, 1) := by decide +kernel
theorem dX3_init_100 : decode cX3_init 100 = .ok (.bipush 16, 2) := by decide +kernel
theorem dX3_init_102 : decode cX3_init 102 = .ok (.if_icmp .ge 16, 3) := by decide +kernel
theorem dX3_init_105 : decode cX3_init 105 = .ok (.aload_n 0, 1) := by decide +kernel
theorem dX3_init_106 : decode cX3_init 106 = .ok (.getfield 21, 3) := by decide +kernel
theorem dX3_init_109 : decode cX3_init 109 = .ok (.iload_n 1, 1) := by decide +kernel
theorem dX3_init_110 : decode cX3_init 110 = .ok (.iconst (-1), 1) := by decide +kernel
theorem dX3_init_111 : decode cX3_init 111 = .ok (.iastore, 1) := by decide +kernel
theorem dX3_init_112 : decode cX3_init 112 = .ok (.iinc 1 1, 3) := by decide +kernel
theorem dX3_init_115 : decode cX3_init 115 = .ok (.goto (-16), 3) := by decide +kernel
theorem dX3_init_118 : decode cX3_init 118 = .ok (.aload_n 0, 1) := by decide +kernel
theorem dX3_init_119 : decode cX3_init 119 = .ok (.getfield 11, 3) := by decide +kernel
theorem dX3_init_122 : decode cX3_init 122 = .ok (.iconst 0, 1) := by decide +kernel
theorem dX3_init_123 : decode cX3_init 123 = .ok (.aaload, 1) := by decide +kernel
theorem dX3_init_124 : decode cX3_init 124 = .ok (.iconst 0, 1) := by decide +kernel
theorem dX3_init_125 : decode cX3_init 125 = .ok (.invokestatic 37, 3) := by decide +kernel
theorem dX3_init_128 : decode cX3_init 128 = .ok (.iconst (-1), 1) := by decide +kernel
theorem dX3_init_129 : decode cX3_init 129 = .ok (.iconst 0, 1) := by decide +kernel
theorem dX3_init_130 : decode cX3_init 130 = .ok (.aload_n 0, 1) := by decide +kernel
theorem dX3_init_131 : decode cX3_init 131 = .ok (.getfield 32, 3) := by decide +kernel
theorem dX3_init_134 : decode cX3_init 134 = .ok (.invokevirtual 41, 3) := by decide +kernel
theorem dX3_init_137 : decode cX3_init 137 = .ok (.aload_n 0, 1) := by decide +kernel
theorem dX3_init_138 : decode cX3_init 138 = .ok (.getfield 21, 3) := by decide +kernel
theorem dX3_init_141 : decode cX3_init 141 = .ok (.iconst 0, 1) := by decide +kernel
theorem dX3_init_142 : decode cX3_init 142 = .ok (.iconst 0, 1) := by decide +kernel
theorem dX3_init_143 : decode cX3_init 143 = .ok (.iastore, 1) := by decide +kernel
theorem dX3_init_144 : decode cX3_init 144 = .ok (.return_, 1) := by decide +kernel
theorem dX3_start_0 : decode cX3_start 0 = .ok (.iload_n 1, 1) := by decide +kernel
theorem dX3_start_1 : decode cX3_start 1 = .ok (.invokestatic 45, 3) := by decide +kernel
theorem dX3_start_4 : decode cX3_start 4 = .ok (.ifCond .eq 12, 3) := by decide +kernel
theorem dX3_start_7 : decode cX3_start 7 = .ok (.iload_n 2, 1) := by decide +kernel
theorem dX3_start_8 : decode cX3_start 8 = .ok (.ifCond .lt 8, 3) := by decide +kernel
theorem dX3_start_11 : decode cX3_start 11 = .ok (.iload_n 2, 1) := by decide +kernel
theorem dX3_start_12 : decode cX3_start 12 = .ok (.iconst 2, 1) := by decide +kernel
theorem dX3_start_13 : decode cX3_start 13 = .ok (.if_icmp .le 5, 3) := by decide +kernel
theorem dX3_start_16 : decode cX3_start 16 = .ok (.iconst 0, 1) := by decide +kernel
theorem dX3_start_17 : decode cX3_start 17 = .ok (.ireturn, 1) := by decide +kernel
theorem dX3_start_18 : decode cX3_start 18 = .ok (.iload_n 3, 1) := by decide +kernel
theorem dX3_start_19 : decode cX3_start 19 = .ok (.ifCond .lt 22, 3) := by decide +kernel
theorem dX3_start_22 : decode cX3_start 22 = .ok (.iload_n 3, 1) := by decide +kernel
theorem dX3_start_23 : decode cX3_start 23 = .ok (.sipush 256, 3) := by decide +kernel
theorem dX3_start_26 : decode cX3_start 26 = .ok (.if_icmp .ge 15, 3) := by decide +kernel
theorem dX3_start_29 : decode cX3_start 29 = .ok (.iload 4, 2) := by decide +kernel
theorem dX3_start_31 : decode cX3_start 31 = .ok (.ifCond .lt 10, 3) := by decide +kernel
theorem dX3_start_34 : decode cX3_start 34 = .ok (.iload 4, 2) := by decide +kernel
theorem dX3_start_36 : decode cX3_start 36 = .ok (.ldc 49, 2) := by decide +kernel
theorem dX3_start_38 : decode cX3_start 38 = .ok (.if_icmp .le 5, 3) := by decide +kernel
theorem dX3_start_41 : decode cX3_start 41 = .ok (.iconst 0, 1) := by decide +kernel
theorem dX3_start_42 : decode cX3_start 42 = .ok (.ireturn, 1) := by decide +kernel
theorem dX3_start_43 : decode cX3_start 43 = .ok (.aload_n 0, 1) := by decide +kernel
theorem dX3_start_44 : decode cX3_start 44 = .ok (.getfield 17, 3) := by decide +kernel
theorem dX3_start_47 : decode cX3_start 47 = .ok (.iload_n 1, 1) := by decide +kernel
theorem dX3_start_48 : decode cX3_start 48 = .ok (.aaload, 1) := by decide +kernel
theorem dX3_start_49 : decode cX3_start 49 = .ok (.astore 5, 2) := by decide +kernel
theorem dX3_start_51 : decode cX3_start 51 = .ok (.aload 5, 2) := by decide +kernel
theorem dX3_start_53 : decode cX3_start 53 = .ok (.getfield 50, 3) := by decide +kernel
theorem dX3_start_56 : decode cX3_start 56 = .ok (.ifCond .eq 5, 3) := by decide +kernel
theorem dX3_start_59 : decode cX3_start 59 = .ok (.iconst 0, 1) := by decide +kernel
theorem dX3_start_60 : decode cX3_start 60 = .ok (.ireturn, 1) := by decide +kernel
theorem dX3_start_61 : decode cX3_start 61 = .ok (.aload 5, 2) := by decide +kernel
theorem dX3_start_63 : decode cX3_start 63 = .ok (.iload_n 2, 1) := by decide +kernel
theorem dX3_start_64 : decode cX3_start 64 = .ok (.iload_n 3, 1) := by decide +kernel
theorem dX3_start_65 : decode cX3_start 65 = .ok (.iload 4, 2) := by decide +kernel
theorem dX3_start_67 : decode cX3_start 67 = .ok (.invokevirtual 53, 3) := by decide +kernel
theorem dX3_start_70 : decode cX3_start 70 = .ok (.iconst 1, 1) := by decide +kernel
theorem dX3_start_71 : decode cX3_start 71 = .ok (.ireturn, 1) := by decide +kernel
theorem dX3_step_0 : decode cX3_step 0 = .ok (.iload_n 1, 1) := by decide +kernel
theorem dX3_step_1 : decode cX3_step 1 = .ok (.invokestatic 45, 3) := by decide +kernel
theorem dX3_step_4 : decode cX3_step 4 = .ok (.ifCond .ne 5, 3) := by decide +kernel
theorem dX3_step_7 : decode cX3_step 7 = .ok (.iconst (-1), 1) := by decide +kernel
theorem dX3_step_8 : decode cX3_step 8 = .ok (.ireturn, 1) := by decide +kernel
theorem dX3_step_9 : decode cX3_step 9 = .ok (.aload_n 0, 1) := by decide +kernel
theorem dX3_step_10 : decode cX3_step 10 = .ok (.getfield 17, 3) := by decide +kernel
theorem dX3_step_13 : decode cX3_step 13 = .ok (.iload_n 1, 1) := by decide +kernel
theorem dX3_step_14 : decode cX3_step 14 = .ok (.aaload, 1) := by decide +kernel
theorem dX3_step_15 : decode cX3_step 15 = .ok (.astore_n 2, 1) := by decide +kernel
theorem dX3_step_16 : decode cX3_step 16 = .ok (.aload_n 0, 1) := by decide +kernel
theorem dX3_step_17 : decode cX3_step 17 = .ok (.aload_n 2, 1) := by decide +kernel
theorem dX3_step_18 : decode cX3_step 18 = .ok (.invokevirtual 57, 3) := by decide +kernel
theorem dX3_step_21 : decode cX3_step 21 = .ok (.aload_n 2, 1) := by decide +kernel
theorem dX3_step_22 : decode cX3_step 22 = .ok (.getfield 50, 3) := by decide +kernel
theorem dX3_step_25 : decode cX3_step 25 = .ok (.ireturn, 1) := by decide +kernel
theorem dX3_run_0 : decode cX3_run 0 = .ok (.iload_n 1, 1) := by decide +kernel
theorem dX3_run_1 : decode cX3_run 1 = .ok (.invokestatic 45, 3) := by decide +kernel
theorem dX3_run_4 : decode cX3_run 4 = .ok (.ifCond .eq 14, 3) := by decide +kernel
theorem dX3_run_7 : decode cX3_run 7 = .ok (.iload_n 2, 1) := by decide +kernel
theorem dX3_run_8 : decode cX3_run 8 = .ok (.ifCond .lt 10, 3) := by decide +kernel
theorem dX3_run_11 : decode cX3_run 11 = .ok (.iload_n 2, 1) := by decide +kernel
theorem dX3_run_12 : decode cX3_run 12 = .ok (.sipush 1000, 3) := by decide +kernel
theorem dX3_run_15 : decode cX3_run 15 = .ok (.if_icmp .le 5, 3) := by decide +kernel
theorem dX3_run_18 : decode cX3_run 18 = .ok (.iconst (-1), 1) := by decide +kernel
theorem dX3_run_19 : decode cX3_run 19 = .ok (.ireturn, 1) := by decide +kernel
theorem dX3_run_20 : decode cX3_run 20 = .ok (.aload_n 0, 1) := by decide +kernel
theorem dX3_run_21 : decode cX3_run 21 = .ok (.getfield 17, 3) := by decide +kernel
theorem dX3_run_24 : decode cX3_run 24 = .ok (.iload_n 1, 1) := by decide +kernel
theorem dX3_run_25 : decode cX3_run 25 = .ok (.aaload, 1) := by decide +kernel
theorem dX3_run_26 : decode cX3_run 26 = .ok (.astore_n 3, 1) := by decide +kernel
theorem dX3_run_27 : decode cX3_run 27 = .ok (.iconst 0, 1) := by decide +kernel
theorem dX3_run_28 : decode cX3_run 28 = .ok (.istore 4, 2) := by decide +kernel
theorem dX3_run_30 : decode cX3_run 30 = .ok (.iload 4, 2) := by decide +kernel
theorem dX3_run_32 : decode cX3_run 32 = .ok (.iload_n 2, 1) := by decide +kernel
theorem dX3_run_33 : decode cX3_run 33 = .ok (.if_icmp .ge 21, 3) := by decide +kernel
theorem dX3_run_36 : decode cX3_run 36 = .ok (.aload_n 3, 1) := by decide +kernel
theorem dX3_run_37 : decode cX3_run 37 = .ok (.getfield 50, 3) := by decide +kernel
theorem dX3_run_40 : decode cX3_run 40 = .ok (.ifCond .eq 14, 3) := by decide +kernel
theorem dX3_run_43 : decode cX3_run 43 = .ok (.aload_n 0, 1) := by decide +kernel
theorem dX3_run_44 : decode cX3_run 44 = .ok (.aload_n 3, 1) := by decide +kernel
theorem dX3_run_45 : decode cX3_run 45 = .ok (.invokevirtual 57, 3) := by decide +kernel
theorem dX3_run_48 : decode cX3_run 48 = .ok (.iinc 4 1, 3) := by decide +kernel
theorem dX3_run_51 : decode cX3_run 51 = .ok (.goto (-21), 3) := by decide +kernel
theorem dX3_run_54 : decode cX3_run 54 = .ok (.iload 4, 2) := by decide +kernel
theorem dX3_run_56 : decode cX3_run 56 = .ok (.ireturn, 1) := by decide +kernel
theorem dX3_result_0 : decode cX3_result 0 = .ok (.iload_n 1, 1) := by decide +kernel
theorem dX3_result_1 : decode cX3_result 1 = .ok (.invokestatic 45, 3) := by decide +kernel
theorem dX3_result_4 : decode cX3_result 4 = .ok (.ifCond .ne 13, 3) := by decide +kernel
theorem dX3_result_7 : decode cX3_result 7 = .ok (.new 61, 3) := by decide +kernel
theorem dX3_result_10 : decode cX3_result 10 = .ok (.dup, 1) := by decide +kernel
theorem dX3_result_11 : decode cX3_result 11 = .ok (.ldc 63, 2) := by decide +kernel
theorem dX3_result_13 : decode cX3_result 13 = .ok (.invokespecial 65, 3) := by decide +kernel
theorem dX3_result_16 : decode cX3_result 16 = .ok (.athrow, 1) := by decide +kernel
theorem dX3_result_17 : decode cX3_result 17 = .ok (.aload_n 0, 1) := by decide +kernel
theorem dX3_result_18 : decode cX3_result 18 = .ok (.getfield 17, 3) := by decide +kernel
theorem dX3_result_21 : decode cX3_result 21 = .ok (.iload_n 1, 1) := by decide +kernel
theorem dX3_result_22 : decode cX3_result 22 = .ok (.aaload, 1) := by decide +kernel
theorem dX3_result_23 : decode cX3_result 23 = .ok (.getfield 68, 3) := by decide +kernel
theorem dX3_result_26 : decode cX3_result 26 = .ok (.ireturn, 1) := by decide +kernel
theorem dX3_process_0 : decode cX3_process 0 = .ok (.iload_n 1, 1) := by decide +kernel
theorem dX3_process_1 : decode cX3_process 1 = .ok (.invokestatic 45, 3) := by decide +kernel
theorem dX3_process_4 : decode cX3_process 4 = .ok (.ifCond .ne 13, 3) := by decide +kernel
theorem dX3_process_7 : decode cX3_process 7 = .ok (.new 61, 3) := by decide +kernel
theorem dX3_process_10 : decode cX3_process 10 = .ok (.dup, 1) := by decide +kernel
theorem dX3_process_11 : decode cX3_process 11 = .ok (.ldc 63, 2) := by decide +kernel
theorem dX3_process_13 : decode cX3_process 13 = .ok (.invokespecial 65, 3) := by decide +kernel
theorem dX3_process_16 : decode cX3_process 16 = .ok (.athrow, 1) := by decide +kernel
theorem dX3_process_17 : decode cX3_process 17 = .ok (.aload_n 0, 1) := by decide +kernel
theorem dX3_process_18 : decode cX3_process 18 = .ok (.getfield 17, 3) := by decide +kernel
theorem dX3_process_21 : decode cX3_process 21 = .ok (.iload_n 1, 1) := by decide +kernel
theorem dX3_process_22 : decode cX3_process 22 = .ok (.aaload, 1) := by decide +kernel
theorem dX3_process_23 : decode cX3_process 23 = .ok (.astore_n 3, 1) := by decide +kernel
theorem dX3_process_24 : decode cX3_process 24 = .ok (.iload_n 2, 1) := by decide +kernel
theorem dX3_process_25 : decode cX3_process 25 = .ok (.tableswitch 102 0 8 #[51, 56, 61, 66, 74, 82, 87, 92, 97], 51) := by decide +kernel
theorem dX3_process_76 : decode cX3_process 76 = .ok (.aload_n 3, 1) := by decide +kernel
theorem dX3_process_77 : decode cX3_process 77 = .ok (.getfield 50, 3) := by decide +kernel
theorem dX3_process_80 : decode cX3_process 80 = .ok (.ireturn, 1) := by decide +kernel
theorem dX3_process_81 : decode cX3_process 81 = .ok (.aload_n 3, 1) := by decide +kernel
theorem dX3_process_82 : decode cX3_process 82 = .ok (.getfield 71, 3) := by decide +kernel
theorem dX3_process_85 : decode cX3_process 85 = .ok (.ireturn, 1) := by decide +kernel
theorem dX3_process_86 : decode cX3_process 86 = .ok (.aload_n 3, 1) := by decide +kernel
theorem dX3_process_87 : decode cX3_process 87 = .ok (.getfield 74, 3) := by decide +kernel
theorem dX3_process_90 : decode cX3_process 90 = .ok (.ireturn, 1) := by decide +kernel
theorem dX3_process_91 : decode cX3_process 91 = .ok (.aload_n 3, 1) := by decide +kernel
theorem dX3_process_92 : decode cX3_process 92 = .ok (.getfield 77, 3) := by decide +kernel
theorem dX3_process_95 : decode cX3_process 95 = .ok (.getfield 81, 3) := by decide +kernel
theorem dX3_process_98 : decode cX3_process 98 = .ok (.ireturn, 1) := by decide +kernel
theorem dX3_process_99 : decode cX3_process 99 = .ok (.aload_n 3, 1) := by decide +kernel
theorem dX3_process_100 : decode cX3_process 100 = .ok (.getfield 86, 3) := by decide +kernel
theorem dX3_process_103 : decode cX3_process 103 = .ok (.getfield 81, 3) := by decide +kernel
theorem dX3_process_106 : decode cX3_process 106 = .ok (.ireturn, 1) := by decide +kernel
theorem dX3_process_107 : decode cX3_process 107 = .ok (.aload_n 3, 1) := by decide +kernel
theorem dX3_process_108 : decode cX3_process 108 = .ok (.getfield 89, 3) := by decide +kernel
theorem dX3_process_111 : decode cX3_process 111 = .ok (.ireturn, 1) := by decide +kernel
theorem dX3_process_112 : decode cX3_process 112 = .ok (.aload_n 3, 1) := by decide +kernel
theorem dX3_process_113 : decode cX3_process 113 = .ok (.getfield 92, 3) := by decide +kernel
theorem dX3_process_116 : decode cX3_process 116 = .ok (.ireturn, 1) := by decide +kernel
theorem dX3_process_117 : decode cX3_process 117 = .ok (.aload_n 3, 1) := by decide +kernel
theorem dX3_process_118 : decode cX3_process 118 = .ok (.getfield 95, 3) := by decide +kernel
theorem dX3_process_121 : decode cX3_process 121 = .ok (.ireturn, 1) := by decide +kernel
theorem dX3_process_122 : decode cX3_process 122 = .ok (.aload_n 3, 1) := by decide +kernel
theorem dX3_process_123 : decode cX3_process 123 = .ok (.getfield 98, 3) := by decide +kernel
theorem dX3_process_126 : decode cX3_process 126 = .ok (.ireturn, 1) := by decide +kernel
theorem dX3_process_127 : decode cX3_process 127 = .ok (.new 61, 3) := by decide +kernel
theorem dX3_process_130 : decode cX3_process 130 = .ok (.dup, 1) := by decide +kernel
theorem dX3_process_131 : decode cX3_process 131 = .ok (.ldc 101, 2) := by decide +kernel
theorem dX3_process_133 : decode cX3_process 133 = .ok (.invokespecial 65, 3) := by decide +kernel
theorem dX3_process_136 : decode cX3_process 136 = .ok (.athrow, 1) := by decide +kernel
theorem dX3_node_0 : decode cX3_node 0 = .ok (.iload_n 1, 1) := by decide +kernel
theorem dX3_node_1 : decode cX3_node 1 = .ok (.invokestatic 103, 3) := by decide +kernel
theorem dX3_node_4 : decode cX3_node 4 = .ok (.ifCond .ne 13, 3) := by decide +kernel
theorem dX3_node_7 : decode cX3_node 7 = .ok (.new 61, 3) := by decide +kernel
theorem dX3_node_10 : decode cX3_node 10 = .ok (.dup, 1) := by decide +kernel
theorem dX3_node_11 : decode cX3_node 11 = .ok (.ldc 106, 2) := by decide +kernel
theorem dX3_node_13 : decode cX3_node 13 = .ok (.invokespecial 65, 3) := by decide +kernel
theorem dX3_node_16 : decode cX3_node 16 = .ok (.athrow, 1) := by decide +kernel
theorem dX3_node_17 : decode cX3_node 17 = .ok (.aload_n 0, 1) := by decide +kernel
theorem dX3_node_18 : decode cX3_node 18 = .ok (.getfield 11, 3) := by decide +kernel
theorem dX3_node_21 : decode cX3_node 21 = .ok (.iload_n 1, 1) := by decide +kernel
theorem dX3_node_22 : decode cX3_node 22 = .ok (.aaload, 1) := by decide +kernel
theorem dX3_node_23 : decode cX3_node 23 = .ok (.astore_n 3, 1) := by decide +kernel
theorem dX3_node_24 : decode cX3_node 24 = .ok (.iload_n 2, 1) := by decide +kernel
theorem dX3_node_25 : decode cX3_node 25 = .ok (.tableswitch 95 0 7 #[47, 52, 57, 62, 75, 80, 85, 90], 47) := by decide +kernel
theorem dX3_node_72 : decode cX3_node 72 = .ok (.aload_n 3, 1) := by decide +kernel
theorem dX3_node_73 : decode cX3_node 73 = .ok (.getfield 108, 3) := by decide +kernel
theorem dX3_node_76 : decode cX3_node 76 = .ok (.ireturn, 1) := by decide +kernel
theorem dX3_node_77 : decode cX3_node 77 = .ok (.aload_n 3, 1) := by decide +kernel
theorem dX3_node_78 : decode cX3_node 78 = .ok (.getfield 111, 3) := by decide +kernel
theorem dX3_node_81 : decode cX3_node 81 = .ok (.ireturn, 1) := by decide +kernel
theorem dX3_node_82 : decode cX3_node 82 = .ok (.aload_n 3, 1) := by decide +kernel
theorem dX3_node_83 : decode cX3_node 83 = .ok (.getfield 114, 3) := by decide +kernel
theorem dX3_node_86 : decode cX3_node 86 = .ok (.ireturn, 1) := by decide +kernel
theorem dX3_node_87 : decode cX3_node 87 = .ok (.aload_n 3, 1) := by decide +kernel
theorem dX3_node_88 : decode cX3_node 88 = .ok (.getfield 117, 3) := by decide +kernel
theorem dX3_node_91 : decode cX3_node 91 = .ok (.ifCond .eq 7, 3) := by decide +kernel
theorem dX3_node_94 : decode cX3_node 94 = .ok (.iconst 1, 1) := by decide +kernel
theorem dX3_node_95 : decode cX3_node 95 = .ok (.goto 4, 3) := by decide +kernel
theorem dX3_node_98 : decode cX3_node 98 = .ok (.iconst 0, 1) := by decide +kernel
theorem dX3_node_99 : decode cX3_node 99 = .ok (.ireturn, 1) := by decide +kernel
theorem dX3_node_100 : decode cX3_node 100 = .ok (.aload_n 3, 1) := by decide +kernel
theorem dX3_node_101 : decode cX3_node 101 = .ok (.getfield 121, 3) := by decide +kernel
theorem dX3_node_104 : decode cX3_node 104 = .ok (.ireturn, 1) := by decide +kernel
theorem dX3_node_105 : decode cX3_node 105 = .ok (.aload_n 3, 1) := by decide +kernel
theorem dX3_node_106 : decode cX3_node 106 = .ok (.getfield 124, 3) := by decide +kernel
theorem dX3_node_109 : decode cX3_node 109 = .ok (.ireturn, 1) := by decide +kernel
theorem dX3_node_110 : decode cX3_node 110 = .ok (.aload_n 3, 1) := by decide +kernel
theorem dX3_node_111 : decode cX3_node 111 = .ok (.getfield 127, 3) := by decide +kernel
theorem dX3_node_114 : decode cX3_node 114 = .ok (.ireturn, 1) := by decide +kernel
theorem dX3_node_115 : decode cX3_node 115 = .ok (.aload_n 3, 1) := by decide +kernel
theorem dX3_node_116 : decode cX3_node 116 = .ok (.getfield 130, 3) := by decide +kernel
theorem dX3_node_119 : decode cX3_node 119 = .ok (.ireturn, 1) := by decide +kernel
theorem dX3_node_120 : decode cX3_node 120 = .ok (.new 61, 3) := by decide +kernel
theorem dX3_node_123 : decode cX3_node 123 = .ok (.dup, 1) := by decide +kernel
theorem dX3_node_124 : decode cX3_node 124 = .ok (.ldc 133, 2) := by decide +kernel
theorem dX3_node_126 : decode cX3_node 126 = .ok (.invokespecial 65, 3) := by decide +kernel
theorem dX3_node_129 : decode cX3_node 129 = .ok (.athrow, 1) := by decide +kernel
theorem dX3_bucket_0 : decode cX3_bucket 0 = .ok (.aload_n 0, 1) := by decide +kernel
theorem dX3_bucket_1 : decode cX3_bucket 1 = .ok (.iload_n 1, 1) := by decide +kernel
theorem dX3_bucket_2 : decode cX3_bucket 2 = .ok (.invokevirtual 135, 3) := by decide +kernel
theorem dX3_bucket_5 : decode cX3_bucket 5 = .ok (.ireturn, 1) := by decide +kernel
theorem dX3_total_0 : decode cX3_total 0 = .ok (.iload_n 1, 1) := by decide +kernel
theorem dX3_total_1 : decode cX3_total 1 = .ok (.tableswitch 62 0 4 #[35, 40, 45, 50, 56], 35) := by decide +kernel
theorem dX3_total_36 : decode cX3_total 36 = .ok (.aload_n 0, 1) := by decide +kernel
theorem dX3_total_37 : decode cX3_total 37 = .ok (.getfield 25, 3) := by decide +kernel
theorem dX3_total_40 : decode cX3_total 40 = .ok (.ireturn, 1) := by decide +kernel
theorem dX3_total_41 : decode cX3_total 41 = .ok (.aload_n 0, 1) := by decide +kernel
theorem dX3_total_42 : decode cX3_total 42 = .ok (.getfield 29, 3) := by decide +kernel
theorem dX3_total_45 : decode cX3_total 45 = .ok (.ireturn, 1) := by decide +kernel
theorem dX3_total_46 : decode cX3_total 46 = .ok (.aload_n 0, 1) := by decide +kernel
theorem dX3_total_47 : decode cX3_total 47 = .ok (.getfield 32, 3) := by decide +kernel
theorem dX3_total_50 : decode cX3_total 50 = .ok (.ireturn, 1) := by decide +kernel
theorem dX3_total_51 : decode cX3_total 51 = .ok (.aload_n 0, 1) := by decide +kernel
theorem dX3_total_52 : decode cX3_total 52 = .ok (.iconst 0, 1) := by decide +kernel
theorem dX3_total_53 : decode cX3_total 53 = .ok (.invokevirtual 138, 3) := by decide +kernel
theorem dX3_total_56 : decode cX3_total 56 = .ok (.ireturn, 1) := by decide +kernel
theorem dX3_total_57 : decode cX3_total 57 = .ok (.aload_n 0, 1) := by decide +kernel
theorem dX3_total_58 : decode cX3_total 58 = .ok (.iconst 2, 1) := by decide +kernel
theorem dX3_total_59 : decode cX3_total 59 = .ok (.invokevirtual 138, 3) := by decide +kernel
theorem dX3_total_62 : decode cX3_total 62 = .ok (.ireturn, 1) := by decide +kernel
theorem dX3_total_63 : decode cX3_total 63 = .ok (.iconst (-1), 1) := by decide +kernel
theorem dX3_total_64 : decode cX3_total 64 = .ok (.ireturn, 1) := by decide +kernel
theorem dX3_advance_0 : decode cX3_advance 0 = .ok (.aload_n 1, 1) := by decide +kernel
theorem dX3_advance_1 : decode cX3_advance 1 = .ok (.getfield 50, 3) := by decide +kernel
theorem dX3_advance_4 : decode cX3_advance 4 = .ok (.tableswitch 172 1 13 #[68, 76, 84, 92, 100, 108, 116, 124, 132, 140, 148, 156, 164], 68) := by decide +kernel
theorem dX3_advance_72 : decode cX3_advance 72 = .ok (.aload_n 0, 1) := by decide +kernel
theorem dX3_advance_73 : decode cX3_advance 73 = .ok (.aload_n 1, 1) := by decide +kernel
theorem dX3_advance_74 : decode cX3_advance 74 = .ok (.invokevirtual 141, 3) := by decide +kernel
theorem dX3_advance_77 : decode cX3_advance 77 = .ok (.goto 99, 3) := by decide +kernel
theorem dX3_advance_80 : decode cX3_advance 80 = .ok (.aload_n 0, 1) := by decide +kernel
theorem dX3_advance_81 : decode cX3_advance 81 = .ok (.aload_n 1, 1) := by decide +kernel
theorem dX3_advance_82 : decode cX3_advance 82 = .ok (.invokevirtual 144, 3) := by decide +kernel
theorem dX3_advance_85 : decode cX3_advance 85 = .ok (.goto 91, 3) := by decide +kernel
theorem dX3_advance_88 : decode cX3_advance 88 = .ok (.aload_n 0, 1) := by decide +kernel
theorem dX3_advance_89 : decode cX3_advance 89 = .ok (.aload_n 1, 1) := by decide +kernel
theorem dX3_advance_90 : decode cX3_advance 90 = .ok (.invokevirtual 147, 3) := by decide +kernel
theorem dX3_advance_93 : decode cX3_advance 93 = .ok (.goto 83, 3) := by decide +kernel
theorem dX3_advance_96 : decode cX3_advance 96 = .ok (.aload_n 0, 1) := by decide +kernel
theorem dX3_advance_97 : decode cX3_advance 97 = .ok (.aload_n 1, 1) := by decide +kernel
theorem dX3_advance_98 : decode cX3_advance 98 = .ok (.invokevirtual 150, 3) := by decide +kernel
theorem dX3_advance_101 : decode cX3_advance 101 = .ok (.goto 75, 3) := by decide +kernel
theorem dX3_advance_104 : decode cX3_advance 104 = .ok (.aload_n 0, 1) := by decide +kernel
theorem dX3_advance_105 : decode cX3_advance 105 = .ok (.aload_n 1, 1) := by decide +kernel
theorem dX3_advance_106 : decode cX3_advance 106 = .ok (.invokevirtual 153, 3) := by decide +kernel
theorem dX3_advance_109 : decode cX3_advance 109 = .ok (.goto 67, 3) := by decide +kernel
theorem dX3_advance_112 : decode cX3_advance 112 = .ok (.aload_n 0, 1) := by decide +kernel
theorem dX3_advance_113 : decode cX3_advance 113 = .ok (.aload_n 1, 1) := by decide +kernel
theorem dX3_advance_114 : decode cX3_advance 114 = .ok (.invokevirtual 156, 3) := by decide +kernel
theorem dX3_advance_117 : decode cX3_advance 117 = .ok (.goto 59, 3) := by decide +kernel
theorem dX3_advance_120 : decode cX3_advance 120 = .ok (.aload_n 0, 1) := by decide +kernel
theorem dX3_advance_121 : decode cX3_advance 121 = .ok (.aload_n 1, 1) := by decide +kernel
theorem dX3_advance_122 : decode cX3_advance 122 = .ok (.invokevirtual 159, 3) := by decide +kernel
theorem dX3_advance_125 : decode cX3_advance 125 = .ok (.goto 51, 3) := by decide +kernel
theorem dX3_advance_128 : decode cX3_advance 128 = .ok (.aload_n 0, 1) := by decide +kernel
theorem dX3_advance_129 : decode cX3_advance 129 = .ok (.aload_n 1, 1) := by decide +kernel
theorem dX3_advance_130 : decode cX3_advance 130 = .ok (.invokevirtual 162, 3) := by decide +kernel
theorem dX3_advance_133 : decode cX3_advance 133 = .ok (.goto 43, 3) := by decide +kernel
theorem dX3_advance_136 : decode cX3_advance 136 = .ok (.aload_n 0, 1) := by decide +kernel
theorem dX3_advance_137 : decode cX3_advance 137 = .ok (.aload_n 1, 1) := by decide +kernel
theorem dX3_advance_138 : decode cX3_advance 138 = .ok (.invokevirtual 165, 3) := by decide +kernel
theorem dX3_advance_141 : decode cX3_advance 141 = .ok (.goto 35, 3) := by decide +kernel
theorem dX3_advance_144 : decode cX3_advance 144 = .ok (.aload_n 0, 1) := by decide +kernel
theorem dX3_advance_145 : decode cX3_advance 145 = .ok (.aload_n 1, 1) := by decide +kernel
theorem dX3_advance_146 : decode cX3_advance 146 = .ok (.invokevirtual 168, 3) := by decide +kernel
theorem dX3_advance_149 : decode cX3_advance 149 = .ok (.goto 27, 3) := by decide +kernel
theorem dX3_advance_152 : decode cX3_advance 152 = .ok (.aload_n 0, 1) := by decide +kernel
theorem dX3_advance_153 : decode cX3_advance 153 = .ok (.aload_n 1, 1) := by decide +kernel
theorem dX3_advance_154 : decode cX3_advance 154 = .ok (.invokevirtual 171, 3) := by decide +kernel
theorem dX3_advance_157 : decode cX3_advance 157 = .ok (.goto 19, 3) := by decide +kernel
theorem dX3_advance_160 : decode cX3_advance 160 = .ok (.aload_n 0, 1) := by decide +kernel
theorem dX3_advance_161 : decode cX3_advance 161 = .ok (.aload_n 1, 1) := by decide +kernel
theorem dX3_advance_162 : decode cX3_advance 162 = .ok (.invokevirtual 174, 3) := by decide +kernel
theorem dX3_advance_165 : decode cX3_advance 165 = .ok (.goto 11, 3) := by decide +kernel
theorem dX3_advance_168 : decode cX3_advance 168 = .ok (.aload_n 0, 1) := by decide +kernel
theorem dX3_advance_169 : decode cX3_advance 169 = .ok (.aload_n 1, 1) := by decide +kernel
theorem dX3_advance_170 : decode cX3_advance 170 = .ok (.invokevirtual 177, 3) := by decide +kernel
theorem dX3_advance_173 : decode cX3_advance 173 = .ok (.goto 3, 3) := by decide +kernel
theorem dX3_advance_176 : decode cX3_advance 176 = .ok (.return_, 1) := by decide +kernel
theorem dX3_enter_0 : decode cX3_enter 0 = .ok (.aload_n 1, 1) := by decide +kernel
theorem dX3_enter_1 : decode cX3_enter 1 = .ok (.aload_n 0, 1) := by decide +kernel
theorem dX3_enter_2 : decode cX3_enter 2 = .ok (.getfield 32, 3) := by decide +kernel
theorem dX3_enter_5 : decode cX3_enter 5 = .ok (.putfield 71, 3) := by decide +kernel
theorem dX3_enter_8 : decode cX3_enter 8 = .ok (.aload_n 1, 1) := by decide +kernel
theorem dX3_enter_9 : decode cX3_enter 9 = .ok (.aload_n 0, 1) := by decide +kernel
theorem dX3_enter_10 : decode cX3_enter 10 = .ok (.getfield 32, 3) := by decide +kernel
theorem dX3_enter_13 : decode cX3_enter 13 = .ok (.putfield 74, 3) := by decide +kernel
theorem dX3_enter_16 : decode cX3_enter 16 = .ok (.aload_n 1, 1) := by decide +kernel
theorem dX3_enter_17 : decode cX3_enter 17 = .ok (.aload_n 1, 1) := by decide +kernel
theorem dX3_enter_18 : decode cX3_enter 18 = .ok (.getfield 180, 3) := by decide +kernel
theorem dX3_enter_21 : decode cX3_enter 21 = .ok (.invokestatic 181, 3) := by decide +kernel
theorem dX3_enter_24 : decode cX3_enter 24 = .ok (.aload_n 0, 1) := by decide +kernel
theorem dX3_enter_25 : decode cX3_enter 25 = .ok (.getfield 25, 3) := by decide +kernel
theorem dX3_enter_28 : decode cX3_enter 28 = .ok (.iconst 1, 1) := by decide +kernel
theorem dX3_enter_29 : decode cX3_enter 29 = .ok (.isub, 1) := by decide +kernel
theorem dX3_enter_30 : decode cX3_enter 30 = .ok (.iand, 1) := by decide +kernel
theorem dX3_enter_31 : decode cX3_enter 31 = .ok (.putfield 184, 3) := by decide +kernel
theorem dX3_enter_34 : decode cX3_enter 34 = .ok (.aload_n 1, 1) := by decide +kernel
theorem dX3_enter_35 : decode cX3_enter 35 = .ok (.getfield 86, 3) := by decide +kernel
theorem dX3_enter_38 : decode cX3_enter 38 = .ok (.iconst 0, 1) := by decide +kernel
theorem dX3_enter_39 : decode cX3_enter 39 = .ok (.invokevirtual 187, 3) := by decide +kernel
theorem dX3_enter_42 : decode cX3_enter 42 = .ok (.aload_n 1, 1) := by decide +kernel
theorem dX3_enter_43 : decode cX3_enter 43 = .ok (.iconst 2, 1) := by decide +kernel
theorem dX3_enter_44 : decode cX3_enter 44 = .ok (.putfield 50, 3) := by decide +kernel
theorem dX3_enter_47 : decode cX3_enter 47 = .ok (.return_, 1) := by decide +kernel
theorem dX3_seekBucket_0 : decode cX3_seekBucket 0 = .ok (.aload_n 0, 1) := by decide +kernel
theorem dX3_seekBucket_1 : decode cX3_seekBucket 1 = .ok (.aload_n 1, 1) := by decide +kernel
theorem dX3_seekBucket_2 : decode cX3_seekBucket 2 = .ok (.getfield 184, 3) := by decide +kernel
theorem dX3_seekBucket_5 : decode cX3_seekBucket 5 = .ok (.invokevirtual 135, 3) := by decide +kernel
theorem dX3_seekBucket_8 : decode cX3_seekBucket 8 = .ok (.istore_n 2, 1) := by decide +kernel
theorem dX3_seekBucket_9 : decode cX3_seekBucket 9 = .ok (.iload_n 2, 1) := by decide +kernel
theorem dX3_seekBucket_10 : decode cX3_seekBucket 10 = .ok (.iconst (-1), 1) := by decide +kernel
theorem dX3_seekBucket_11 : decode cX3_seekBucket 11 = .ok (.if_icmp .eq 16, 3) := by decide +kernel
theorem dX3_seekBucket_14 : decode cX3_seekBucket 14 = .ok (.aload_n 1, 1) := by decide +kernel
theorem dX3_seekBucket_15 : decode cX3_seekBucket 15 = .ok (.iload_n 2, 1) := by decide +kernel
theorem dX3_seekBucket_16 : decode cX3_seekBucket 16 = .ok (.putfield 191, 3) := by decide +kernel
theorem dX3_seekBucket_19 : decode cX3_seekBucket 19 = .ok (.aload_n 1, 1) := by decide +kernel
theorem dX3_seekBucket_20 : decode cX3_seekBucket 20 = .ok (.iconst 3, 1) := by decide +kernel
theorem dX3_seekBucket_21 : decode cX3_seekBucket 21 = .ok (.putfield 50, 3) := by decide +kernel
theorem dX3_seekBucket_24 : decode cX3_seekBucket 24 = .ok (.goto 25, 3) := by decide +kernel
theorem dX3_seekBucket_27 : decode cX3_seekBucket 27 = .ok (.aload_n 1, 1) := by decide +kernel
theorem dX3_seekBucket_28 : decode cX3_seekBucket 28 = .ok (.getfield 86, 3) := by decide +kernel
theorem dX3_seekBucket_31 : decode cX3_seekBucket 31 = .ok (.aload_n 1, 1) := by decide +kernel
theorem dX3_seekBucket_32 : decode cX3_seekBucket 32 = .ok (.getfield 184, 3) := by decide +kernel
theorem dX3_seekBucket_35 : decode cX3_seekBucket 35 = .ok (.invokevirtual 194, 3) := by decide +kernel
theorem dX3_seekBucket_38 : decode cX3_seekBucket 38 = .ok (.aload_n 1, 1) := by decide +kernel
theorem dX3_seekBucket_39 : decode cX3_seekBucket 39 = .ok (.aload_n 1, 1) := by decide +kernel
theorem dX3_seekBucket_40 : decode cX3_seekBucket 40 = .ok (.getfield 184, 3) := by decide +kernel
theorem dX3_seekBucket_43 : decode cX3_seekBucket 43 = .ok (.invokestatic 197, 3) := by decide +kernel
theorem dX3_seekBucket_46 : decode cX3_seekBucket 46 = .ok (.putfield 184, 3) := by decide +kernel
theorem dX3_seekBucket_49 : decode cX3_seekBucket 49 = .ok (.return_, 1) := by decide +kernel
theorem dX3_loadStart_0 : decode cX3_loadStart 0 = .ok (.aload_n 0, 1) := by decide +kernel
theorem dX3_loadStart_1 : decode cX3_loadStart 1 = .ok (.aload_n 1, 1) := by decide +kernel
theorem dX3_loadStart_2 : decode cX3_loadStart 2 = .ok (.invokevirtual 200, 3) := by decide +kernel
theorem dX3_loadStart_5 : decode cX3_loadStart 5 = .ok (.ifCond .ne 4, 3) := by decide +kernel
theorem dX3_loadStart_8 : decode cX3_loadStart 8 = .ok (.return_, 1) := by decide +kernel
theorem dX3_loadStart_9 : decode cX3_loadStart 9 = .ok (.aload_n 1, 1) := by decide +kernel
theorem dX3_loadStart_10 : decode cX3_loadStart 10 = .ok (.aload_n 1, 1) := by decide +kernel
theorem dX3_loadStart_11 : decode cX3_loadStart 11 = .ok (.getfield 191, 3) := by decide +kernel
theorem dX3_loadStart_14 : decode cX3_loadStart 14 = .ok (.putfield 89, 3) := by decide +kernel
theorem dX3_loadStart_17 : decode cX3_loadStart 17 = .ok (.aload_n 1, 1) := by decide +kernel
theorem dX3_loadStart_18 : decode cX3_loadStart 18 = .ok (.aload_n 0, 1) := by decide +kernel
theorem dX3_loadStart_19 : decode cX3_loadStart 19 = .ok (.aload_n 1, 1) := by decide +kernel
theorem dX3_loadStart_20 : decode cX3_loadStart 20 = .ok (.getfield 191, 3) := by decide +kernel
theorem dX3_loadStart_23 : decode cX3_loadStart 23 = .ok (.invokevirtual 204, 3) := by decide +kernel
theorem dX3_loadStart_26 : decode cX3_loadStart 26 = .ok (.putfield 92, 3) := by decide +kernel
theorem dX3_loadStart_29 : decode cX3_loadStart 29 = .ok (.aload_n 1, 1) := by decide +kernel
theorem dX3_loadStart_30 : decode cX3_loadStart 30 = .ok (.iconst 4, 1) := by decide +kernel
theorem dX3_loadStart_31 : decode cX3_loadStart 31 = .ok (.putfield 50, 3) := by decide +kernel
theorem dX3_loadStart_34 : decode cX3_loadStart 34 = .ok (.return_, 1) := by decide +kernel
theorem dX3_loadCur_0 : decode cX3_loadCur 0 = .ok (.aload_n 1, 1) := by decide +kernel
theorem dX3_loadCur_1 : decode cX3_loadCur 1 = .ok (.getfield 92, 3) := by decide +kernel
theorem dX3_loadCur_4 : decode cX3_loadCur 4 = .ok (.invokestatic 103, 3) := by decide +kernel
theorem dX3_loadCur_7 : decode cX3_loadCur 7 = .ok (.ifCond .ne 10, 3) := by decide +kernel
theorem dX3_loadCur_10 : decode cX3_loadCur 10 = .ok (.aload_n 0, 1) := by decide +kernel
theorem dX3_loadCur_11 : decode cX3_loadCur 11 = .ok (.aload_n 1, 1) := by decide +kernel
theorem dX3_loadCur_12 : decode cX3_loadCur 12 = .ok (.iconst 0, 1) := by decide +kernel
theorem dX3_loadCur_13 : decode cX3_loadCur 13 = .ok (.invokevirtual 207, 3) := by decide +kernel
theorem dX3_loadCur_16 : decode cX3_loadCur 16 = .ok (.return_, 1) := by decide +kernel
theorem dX3_loadCur_17 : decode cX3_loadCur 17 = .ok (.aload_n 0, 1) := by decide +kernel
theorem dX3_loadCur_18 : decode cX3_loadCur 18 = .ok (.aload_n 1, 1) := by decide +kernel
theorem dX3_loadCur_19 : decode cX3_loadCur 19 = .ok (.invokevirtual 200, 3) := by decide +kernel
theorem dX3_loadCur_22 : decode cX3_loadCur 22 = .ok (.ifCond .ne 4, 3) := by decide +kernel
theorem dX3_loadCur_25 : decode cX3_loadCur 25 = .ok (.return_, 1) := by decide +kernel
theorem dX3_loadCur_26 : decode cX3_loadCur 26 = .ok (.aload_n 1, 1) := by decide +kernel
theorem dX3_loadCur_27 : decode cX3_loadCur 27 = .ok (.aload_n 0, 1) := by decide +kernel
theorem dX3_loadCur_28 : decode cX3_loadCur 28 = .ok (.getfield 11, 3) := by decide +kernel
theorem dX3_loadCur_31 : decode cX3_loadCur 31 = .ok (.aload_n 1, 1) := by decide +kernel
theorem dX3_loadCur_32 : decode cX3_loadCur 32 = .ok (.getfield 92, 3) := by decide +kernel
theorem dX3_loadCur_35 : decode cX3_loadCur 35 = .ok (.aaload, 1) := by decide +kernel
theorem dX3_loadCur_36 : decode cX3_loadCur 36 = .ok (.getfield 114, 3) := by decide +kernel
theorem dX3_loadCur_39 : decode cX3_loadCur 39 = .ok (.putfield 95, 3) := by decide +kernel
theorem dX3_loadCur_42 : decode cX3_loadCur 42 = .ok (.aload_n 1, 1) := by decide +kernel
theorem dX3_loadCur_43 : decode cX3_loadCur 43 = .ok (.aload_n 0, 1) := by decide +kernel
theorem dX3_loadCur_44 : decode cX3_loadCur 44 = .ok (.getfield 11, 3) := by decide +kernel
theorem dX3_loadCur_47 : decode cX3_loadCur 47 = .ok (.aload_n 1, 1) := by decide +kernel
theorem dX3_loadCur_48 : decode cX3_loadCur 48 = .ok (.getfield 92, 3) := by decide +kernel
theorem dX3_loadCur_51 : decode cX3_loadCur 51 = .ok (.aaload, 1) := by decide +kernel
theorem dX3_loadCur_52 : decode cX3_loadCur 52 = .ok (.getfield 117, 3) := by decide +kernel
theorem dX3_loadCur_55 : decode cX3_loadCur 55 = .ok (.putfield 211, 3) := by decide +kernel
theorem dX3_loadCur_58 : decode cX3_loadCur 58 = .ok (.aload_n 1, 1) := by decide +kernel
theorem dX3_loadCur_59 : decode cX3_loadCur 59 = .ok (.iconst 5, 1) := by decide +kernel
theorem dX3_loadCur_60 : decode cX3_loadCur 60 = .ok (.putfield 50, 3) := by decide +kernel
theorem dX3_loadCur_63 : decode cX3_loadCur 63 = .ok (.return_, 1) := by decide +kernel
theorem dX3_compare_0 : decode cX3_compare 0 = .ok (.aload_n 1, 1) := by decide +kernel
theorem dX3_compare_1 : decode cX3_compare 1 = .ok (.getfield 92, 3) := by decide +kernel
theorem dX3_compare_4 : decode cX3_compare 4 = .ok (.invokestatic 103, 3) := by decide +kernel
theorem dX3_compare_7 : decode cX3_compare 7 = .ok (.ifCond .eq 18, 3) := by decide +kernel
theorem dX3_compare_10 : decode cX3_compare 10 = .ok (.aload_n 0, 1) := by decide +kernel
theorem dX3_compare_11 : decode cX3_compare 11 = .ok (.aload_n 1, 1) := by decide +kernel
theorem dX3_compare_12 : decode cX3_compare 12 = .ok (.getfield 89, 3) := by decide +kernel
theorem dX3_compare_15 : decode cX3_compare 15 = .ok (.aload_n 1, 1) := by decide +kernel
theorem dX3_compare_16 : decode cX3_compare 16 = .ok (.getfield 92, 3) := by decide +kernel
theorem dX3_compare_19 : decode cX3_compare 19 = .ok (.invokevirtual 214, 3) := by decide +kernel
theorem dX3_compare_22 : decode cX3_compare 22 = .ok (.ifCond .ne 9, 3) := by decide +kernel
theorem dX3_compare_25 : decode cX3_compare 25 = .ok (.aload_n 1, 1) := by decide +kernel
theorem dX3_compare_26 : decode cX3_compare 26 = .ok (.iconst 3, 1) := by decide +kernel
theorem dX3_compare_27 : decode cX3_compare 27 = .ok (.putfield 50, 3) := by decide +kernel
theorem dX3_compare_30 : decode cX3_compare 30 = .ok (.return_, 1) := by decide +kernel
theorem dX3_compare_31 : decode cX3_compare 31 = .ok (.aload_n 1, 1) := by decide +kernel
theorem dX3_compare_32 : decode cX3_compare 32 = .ok (.getfield 211, 3) := by decide +kernel
theorem dX3_compare_35 : decode cX3_compare 35 = .ok (.ifCond .eq 10, 3) := by decide +kernel
theorem dX3_compare_38 : decode cX3_compare 38 = .ok (.aload_n 1, 1) := by decide +kernel
theorem dX3_compare_39 : decode cX3_compare 39 = .ok (.bipush 6, 2) := by decide +kernel
theorem dX3_compare_41 : decode cX3_compare 41 = .ok (.putfield 50, 3) := by decide +kernel
theorem dX3_compare_44 : decode cX3_compare 44 = .ok (.return_, 1) := by decide +kernel
theorem dX3_compare_45 : decode cX3_compare 45 = .ok (.aload_n 0, 1) := by decide +kernel
theorem dX3_compare_46 : decode cX3_compare 46 = .ok (.getfield 11, 3) := by decide +kernel
theorem dX3_compare_49 : decode cX3_compare 49 = .ok (.aload_n 1, 1) := by decide +kernel
theorem dX3_compare_50 : decode cX3_compare 50 = .ok (.getfield 92, 3) := by decide +kernel
theorem dX3_compare_53 : decode cX3_compare 53 = .ok (.aaload, 1) := by decide +kernel
theorem dX3_compare_54 : decode cX3_compare 54 = .ok (.getfield 111, 3) := by decide +kernel
theorem dX3_compare_57 : decode cX3_compare 57 = .ok (.istore_n 2, 1) := by decide +kernel
theorem dX3_compare_58 : decode cX3_compare 58 = .ok (.aload_n 1, 1) := by decide +kernel
theorem dX3_compare_59 : decode cX3_compare 59 = .ok (.invokestatic 218, 3) := by decide +kernel
theorem dX3_compare_62 : decode cX3_compare 62 = .ok (.istore_n 3, 1) := by decide +kernel
theorem dX3_compare_63 : decode cX3_compare 63 = .ok (.iload_n 2, 1) := by decide +kernel
theorem dX3_compare_64 : decode cX3_compare 64 = .ok (.iload_n 3, 1) := by decide +kernel
theorem dX3_compare_65 : decode cX3_compare 65 = .ok (.if_icmp .ge 27, 3) := by decide +kernel
theorem dX3_compare_68 : decode cX3_compare 68 = .ok (.aload_n 1, 1) := by decide +kernel
theorem dX3_compare_69 : decode cX3_compare 69 = .ok (.aload_n 1, 1) := by decide +kernel
theorem dX3_compare_70 : decode cX3_compare 70 = .ok (.getfield 92, 3) := by decide +kernel
theorem dX3_compare_73 : decode cX3_compare 73 = .ok (.putfield 89, 3) := by decide +kernel
theorem dX3_compare_76 : decode cX3_compare 76 = .ok (.aload_n 1, 1) := by decide +kernel
theorem dX3_compare_77 : decode cX3_compare 77 = .ok (.aload_n 1, 1) := by decide +kernel
theorem dX3_compare_78 : decode cX3_compare 78 = .ok (.getfield 95, 3) := by decide +kernel
theorem dX3_compare_81 : decode cX3_compare 81 = .ok (.putfield 92, 3) := by decide +kernel
theorem dX3_compare_84 : decode cX3_compare 84 = .ok (.aload_n 1, 1) := by decide +kernel
theorem dX3_compare_85 : decode cX3_compare 85 = .ok (.iconst 4, 1) := by decide +kernel
theorem dX3_compare_86 : decode cX3_compare 86 = .ok (.putfield 50, 3) := by decide +kernel
theorem dX3_compare_89 : decode cX3_compare 89 = .ok (.goto 18, 3) := by decide +kernel
theorem dX3_compare_92 : decode cX3_compare 92 = .ok (.aload_n 0, 1) := by decide +kernel
theorem dX3_compare_93 : decode cX3_compare 93 = .ok (.aload_n 1, 1) := by decide +kernel
theorem dX3_compare_94 : decode cX3_compare 94 = .ok (.iload_n 2, 1) := by decide +kernel
theorem dX3_compare_95 : decode cX3_compare 95 = .ok (.iload_n 3, 1) := by decide +kernel
theorem dX3_compare_96 : decode cX3_compare 96 = .ok (.if_icmp .ne 7, 3) := by decide +kernel
theorem dX3_compare_99 : decode cX3_compare 99 = .ok (.iconst 1, 1) := by decide +kernel
theorem dX3_compare_100 : decode cX3_compare 100 = .ok (.goto 4, 3) := by decide +kernel
theorem dX3_compare_103 : decode cX3_compare 103 = .ok (.iconst 0, 1) := by decide +kernel
theorem dX3_compare_104 : decode cX3_compare 104 = .ok (.invokevirtual 207, 3) := by decide +kernel
theorem dX3_compare_107 : decode cX3_compare 107 = .ok (.return_, 1) := by decide +kernel
theorem dX3_searchOver_0 : decode cX3_searchOver 0 = .ok (.aload_n 1, 1) := by decide +kernel
theorem dX3_searchOver_1 : decode cX3_searchOver 1 = .ok (.getfield 86, 3) := by decide +kernel
theorem dX3_searchOver_4 : decode cX3_searchOver 4 = .ok (.invokevirtual 222, 3) := by decide +kernel
theorem dX3_searchOver_7 : decode cX3_searchOver 7 = .ok (.ifCond .ne 29, 3) := by decide +kernel
theorem dX3_searchOver_10 : decode cX3_searchOver 10 = .ok (.aload_n 1, 1) := by decide +kernel
theorem dX3_searchOver_11 : decode cX3_searchOver 11 = .ok (.aload_n 1, 1) := by decide +kernel
theorem dX3_searchOver_12 : decode cX3_searchOver 12 = .ok (.getfield 92, 3) := by decide +kernel
theorem dX3_searchOver_15 : decode cX3_searchOver 15 = .ok (.putfield 226, 3) := by decide +kernel
theorem dX3_searchOver_18 : decode cX3_searchOver 18 = .ok (.aload_n 1, 1) := by decide +kernel
theorem dX3_searchOver_19 : decode cX3_searchOver 19 = .ok (.iload_n 2, 1) := by decide +kernel
theorem dX3_searchOver_20 : decode cX3_searchOver 20 = .ok (.ifCond .eq 8, 3) := by decide +kernel
theorem dX3_searchOver_23 : decode cX3_searchOver 23 = .ok (.bipush 9, 2) := by decide +kernel
theorem dX3_searchOver_25 : decode cX3_searchOver 25 = .ok (.goto 5, 3) := by decide +kernel
theorem dX3_searchOver_28 : decode cX3_searchOver 28 = .ok (.bipush 7, 2) := by decide +kernel
theorem dX3_searchOver_30 : decode cX3_searchOver 30 = .ok (.putfield 50, 3) := by decide +kernel
theorem dX3_searchOver_33 : decode cX3_searchOver 33 = .ok (.goto 107, 3) := by decide +kernel
theorem dX3_searchOver_36 : decode cX3_searchOver 36 = .ok (.aload_n 1, 1) := by decide +kernel
theorem dX3_searchOver_37 : decode cX3_searchOver 37 = .ok (.getfield 229, 3) := by decide +kernel
theorem dX3_searchOver_40 : decode cX3_searchOver 40 = .ok (.ifCond .eq 12, 3) := by decide +kernel
theorem dX3_searchOver_43 : decode cX3_searchOver 43 = .ok (.aload_n 1, 1) := by decide +kernel
theorem dX3_searchOver_44 : decode cX3_searchOver 44 = .ok (.bipush 12, 2) := by decide +kernel
theorem dX3_searchOver_46 : decode cX3_searchOver 46 = .ok (.putfield 50, 3) := by decide +kernel
theorem dX3_searchOver_49 : decode cX3_searchOver 49 = .ok (.goto 91, 3) := by decide +kernel
theorem dX3_searchOver_52 : decode cX3_searchOver 52 = .ok (.aload_n 1, 1) := by decide +kernel
theorem dX3_searchOver_53 : decode cX3_searchOver 53 = .ok (.getfield 232, 3) := by decide +kernel
theorem dX3_searchOver_56 : decode cX3_searchOver 56 = .ok (.ifCond .ne 27, 3) := by decide +kernel
theorem dX3_searchOver_59 : decode cX3_searchOver 59 = .ok (.aload_n 0, 1) := by decide +kernel
theorem dX3_searchOver_60 : decode cX3_searchOver 60 = .ok (.aload_n 1, 1) := by decide +kernel
theorem dX3_searchOver_61 : decode cX3_searchOver 61 = .ok (.iload_n 2, 1) := by decide +kernel
theorem dX3_searchOver_62 : decode cX3_searchOver 62 = .ok (.ifCond .eq 14, 3) := by decide +kernel
theorem dX3_searchOver_65 : decode cX3_searchOver 65 = .ok (.aload_n 0, 1) := by decide +kernel
theorem dX3_searchOver_66 : decode cX3_searchOver 66 = .ok (.aload_n 1, 1) := by decide +kernel
theorem dX3_searchOver_67 : decode cX3_searchOver 67 = .ok (.getfield 92, 3) := by decide +kernel
theorem dX3_searchOver_70 : decode cX3_searchOver 70 = .ok (.invokevirtual 235, 3) := by decide +kernel
theorem dX3_searchOver_73 : decode cX3_searchOver 73 = .ok (.goto 4, 3) := by decide +kernel
theorem dX3_searchOver_76 : decode cX3_searchOver 76 = .ok (.iconst (-1), 1) := by decide +kernel
theorem dX3_searchOver_77 : decode cX3_searchOver 77 = .ok (.invokevirtual 238, 3) := by decide +kernel
theorem dX3_searchOver_80 : decode cX3_searchOver 80 = .ok (.goto 60, 3) := by decide +kernel
theorem dX3_searchOver_83 : decode cX3_searchOver 83 = .ok (.aload_n 1, 1) := by decide +kernel
theorem dX3_searchOver_84 : decode cX3_searchOver 84 = .ok (.getfield 232, 3) := by decide +kernel
theorem dX3_searchOver_87 : decode cX3_searchOver 87 = .ok (.iconst 1, 1) := by decide +kernel
theorem dX3_searchOver_88 : decode cX3_searchOver 88 = .ok (.if_icmp .ne 16, 3) := by decide +kernel
theorem dX3_searchOver_91 : decode cX3_searchOver 91 = .ok (.iload_n 2, 1) := by decide +kernel
theorem dX3_searchOver_92 : decode cX3_searchOver 92 = .ok (.ifCond .eq 12, 3) := by decide +kernel
theorem dX3_searchOver_95 : decode cX3_searchOver 95 = .ok (.aload_n 0, 1) := by decide +kernel
theorem dX3_searchOver_96 : decode cX3_searchOver 96 = .ok (.aload_n 1, 1) := by decide +kernel
theorem dX3_searchOver_97 : decode cX3_searchOver 97 = .ok (.iconst 0, 1) := by decide +kernel
theorem dX3_searchOver_98 : decode cX3_searchOver 98 = .ok (.invokevirtual 238, 3) := by decide +kernel
theorem dX3_searchOver_101 : decode cX3_searchOver 101 = .ok (.goto 39, 3) := by decide +kernel
theorem dX3_searchOver_104 : decode cX3_searchOver 104 = .ok (.aload_n 1, 1) := by decide +kernel
theorem dX3_searchOver_105 : decode cX3_searchOver 105 = .ok (.getfield 232, 3) := by decide +kernel
theorem dX3_searchOver_108 : decode cX3_searchOver 108 = .ok (.iconst 1, 1) := by decide +kernel
theorem dX3_searchOver_109 : decode cX3_searchOver 109 = .ok (.if_icmp .ne 12, 3) := by decide +kernel
theorem dX3_searchOver_112 : decode cX3_searchOver 112 = .ok (.aload_n 1, 1) := by decide +kernel
theorem dX3_searchOver_113 : decode cX3_searchOver 113 = .ok (.bipush 7, 2) := by decide +kernel
theorem dX3_searchOver_115 : decode cX3_searchOver 115 = .ok (.putfield 50, 3) := by decide +kernel
theorem dX3_searchOver_118 : decode cX3_searchOver 118 = .ok (.goto 22, 3) := by decide +kernel
theorem dX3_searchOver_121 : decode cX3_searchOver 121 = .ok (.iload_n 2, 1) := by decide +kernel
theorem dX3_searchOver_122 : decode cX3_searchOver 122 = .ok (.ifCond .eq 12, 3) := by decide +kernel
theorem dX3_searchOver_125 : decode cX3_searchOver 125 = .ok (.aload_n 1, 1) := by decide +kernel
theorem dX3_searchOver_126 : decode cX3_searchOver 126 = .ok (.bipush 10, 2) := by decide +kernel
theorem dX3_searchOver_128 : decode cX3_searchOver 128 = .ok (.putfield 50, 3) := by decide +kernel
theorem dX3_searchOver_131 : decode cX3_searchOver 131 = .ok (.goto 9, 3) := by decide +kernel
theorem dX3_searchOver_134 : decode cX3_searchOver 134 = .ok (.aload_n 0, 1) := by decide +kernel
theorem dX3_searchOver_135 : decode cX3_searchOver 135 = .ok (.aload_n 1, 1) := by decide +kernel
theorem dX3_searchOver_136 : decode cX3_searchOver 136 = .ok (.iconst (-1), 1) := by decide +kernel
theorem dX3_searchOver_137 : decode cX3_searchOver 137 = .ok (.invokevirtual 238, 3) := by decide +kernel
theorem dX3_searchOver_140 : decode cX3_searchOver 140 = .ok (.return_, 1) := by decide +kernel
theorem dX3_unlinkMarked_0 : decode cX3_unlinkMarked 0 = .ok (.aload_n 0, 1) := by decide +kernel
theorem dX3_unlinkMarked_1 : decode cX3_unlinkMarked 1 = .ok (.aload_n 1, 1) := by decide +kernel
theorem dX3_unlinkMarked_2 : decode cX3_unlinkMarked 2 = .ok (.getfield 89, 3) := by decide +kernel
theorem dX3_unlinkMarked_5 : decode cX3_unlinkMarked 5 = .ok (.aload_n 1, 1) := by decide +kernel
theorem dX3_unlinkMarked_6 : decode cX3_unlinkMarked 6 = .ok (.getfield 92, 3) := by decide +kernel
theorem dX3_unlinkMarked_9 : decode cX3_unlinkMarked 9 = .ok (.aload_n 1, 1) := by decide +kernel
theorem dX3_unlinkMarked_10 : decode cX3_unlinkMarked 10 = .ok (.getfield 95, 3) := by decide +kernel
theorem dX3_unlinkMarked_13 : decode cX3_unlinkMarked 13 = .ok (.iconst 0, 1) := by decide +kernel
theorem dX3_unlinkMarked_14 : decode cX3_unlinkMarked 14 = .ok (.invokevirtual 242, 3) := by decide +kernel
theorem dX3_unlinkMarked_17 : decode cX3_unlinkMarked 17 = .ok (.ifCond .eq 28, 3) := by decide +kernel
theorem dX3_unlinkMarked_20 : decode cX3_unlinkMarked 20 = .ok (.aload_n 0, 1) := by decide +kernel
theorem dX3_unlinkMarked_21 : decode cX3_unlinkMarked 21 = .ok (.aload_n 1, 1) := by decide +kernel
theorem dX3_unlinkMarked_22 : decode cX3_unlinkMarked 22 = .ok (.aload_n 1, 1) := by decide +kernel
theorem dX3_unlinkMarked_23 : decode cX3_unlinkMarked 23 = .ok (.getfield 92, 3) := by decide +kernel
theorem dX3_unlinkMarked_26 : decode cX3_unlinkMarked 26 = .ok (.invokevirtual 246, 3) := by decide +kernel
theorem dX3_unlinkMarked_29 : decode cX3_unlinkMarked 29 = .ok (.aload_n 1, 1) := by decide +kernel
theorem dX3_unlinkMarked_30 : decode cX3_unlinkMarked 30 = .ok (.aload_n 1, 1) := by decide +kernel
theorem dX3_unlinkMarked_31 : decode cX3_unlinkMarked 31 = .ok (.getfield 95, 3) := by decide +kernel
theorem dX3_unlinkMarked_34 : decode cX3_unlinkMarked 34 = .ok (.putfield 92, 3) := by decide +kernel
theorem dX3_unlinkMarked_37 : decode cX3_unlinkMarked 37 = .ok (.aload_n 1, 1) := by decide +kernel
theorem dX3_unlinkMarked_38 : decode cX3_unlinkMarked 38 = .ok (.iconst 4, 1) := by decide +kernel
theorem dX3_unlinkMarked_39 : decode cX3_unlinkMarked 39 = .ok (.putfield 50, 3) := by decide +kernel
theorem dX3_unlinkMarked_42 : decode cX3_unlinkMarked 42 = .ok (.goto 8, 3) := by decide +kernel
theorem dX3_unlinkMarked_45 : decode cX3_unlinkMarked 45 = .ok (.aload_n 1, 1) := by decide +kernel
theorem dX3_unlinkMarked_46 : decode cX3_unlinkMarked 46 = .ok (.iconst 3, 1) := by decide +kernel
theorem dX3_unlinkMarked_47 : decode cX3_unlinkMarked 47 = .ok (.putfield 50, 3) := by decide +kernel
theorem dX3_unlinkMarked_50 : decode cX3_unlinkMarked 50 = .ok (.return_, 1) := by decide +kernel
theorem dX3_prepare_0 : decode cX3_prepare 0 = .ok (.aload_n 1, 1) := by decide +kernel
theorem dX3_prepare_1 : decode cX3_prepare 1 = .ok (.getfield 98, 3) := by decide +kernel
theorem dX3_prepare_4 : decode cX3_prepare 4 = .ok (.iconst (-1), 1) := by decide +kernel
theorem dX3_prepare_5 : decode cX3_prepare 5 = .ok (.if_icmp .ne 12, 3) := by decide +kernel
theorem dX3_prepare_8 : decode cX3_prepare 8 = .ok (.aload_n 1, 1) := by decide +kernel
theorem dX3_prepare_9 : decode cX3_prepare 9 = .ok (.aload_n 0, 1) := by decide +kernel
theorem dX3_prepare_10 : decode cX3_prepare 10 = .ok (.aload_n 1, 1) := by decide +kernel
theorem dX3_prepare_11 : decode cX3_prepare 11 = .ok (.invokevirtual 249, 3) := by decide +kernel
theorem dX3_prepare_14 : decode cX3_prepare 14 = .ok (.putfield 98, 3) := by decide +kernel
theorem dX3_prepare_17 : decode cX3_prepare 17 = .ok (.aload_n 1, 1) := by decide +kernel
theorem dX3_prepare_18 : decode cX3_prepare 18 = .ok (.getfield 98, 3) := by decide +kernel
theorem dX3_prepare_21 : decode cX3_prepare 21 = .ok (.invokestatic 103, 3) := by decide +kernel
theorem dX3_prepare_24 : decode cX3_prepare 24 = .ok (.ifCond .ne 11, 3) := by decide +kernel
theorem dX3_prepare_27 : decode cX3_prepare 27 = .ok (.aload_n 0, 1) := by decide +kernel
theorem dX3_prepare_28 : decode cX3_prepare 28 = .ok (.aload_n 1, 1) := by decide +kernel
theorem dX3_prepare_29 : decode cX3_prepare 29 = .ok (.bipush (-2), 2) := by decide +kernel
theorem dX3_prepare_31 : decode cX3_prepare 31 = .ok (.invokevirtual 238, 3) := by decide +kernel
theorem dX3_prepare_34 : decode cX3_prepare 34 = .ok (.return_, 1) := by decide +kernel
theorem dX3_prepare_35 : decode cX3_prepare 35 = .ok (.aload_n 0, 1) := by decide +kernel
theorem dX3_prepare_36 : decode cX3_prepare 36 = .ok (.getfield 11, 3) := by decide +kernel
theorem dX3_prepare_39 : decode cX3_prepare 39 = .ok (.aload_n 1, 1) := by decide +kernel
theorem dX3_prepare_40 : decode cX3_prepare 40 = .ok (.getfield 98, 3) := by decide +kernel
theorem dX3_prepare_43 : decode cX3_prepare 43 = .ok (.aaload, 1) := by decide +kernel
theorem dX3_prepare_44 : decode cX3_prepare 44 = .ok (.aload_n 1, 1) := by decide +kernel
theorem dX3_prepare_45 : decode cX3_prepare 45 = .ok (.getfield 92, 3) := by decide +kernel
theorem dX3_prepare_48 : decode cX3_prepare 48 = .ok (.iconst 0, 1) := by decide +kernel
theorem dX3_prepare_49 : decode cX3_prepare 49 = .ok (.invokevirtual 252, 3) := by decide +kernel
theorem dX3_prepare_52 : decode cX3_prepare 52 = .ok (.aload_n 1, 1) := by decide +kernel
theorem dX3_prepare_53 : decode cX3_prepare 53 = .ok (.bipush 8, 2) := by decide +kernel
theorem dX3_prepare_55 : decode cX3_prepare 55 = .ok (.putfield 50, 3) := by decide +kernel
theorem dX3_prepare_58 : decode cX3_prepare 58 = .ok (.return_, 1) := by decide +kernel
theorem dX3_link_0 : decode cX3_link 0 = .ok (.aload_n 0, 1) := by decide +kernel
theorem dX3_link_1 : decode cX3_link 1 = .ok (.aload_n 1, 1) := by decide +kernel
theorem dX3_link_2 : decode cX3_link 2 = .ok (.getfield 89, 3) := by decide +kernel
theorem dX3_link_5 : decode cX3_link 5 = .ok (.aload_n 1, 1) := by decide +kernel
theorem dX3_link_6 : decode cX3_link 6 = .ok (.getfield 92, 3) := by decide +kernel
theorem dX3_link_9 : decode cX3_link 9 = .ok (.aload_n 1, 1) := by decide +kernel
theorem dX3_link_10 : decode cX3_link 10 = .ok (.getfield 98, 3) := by decide +kernel
theorem dX3_link_13 : decode cX3_link 13 = .ok (.iconst 0, 1) := by decide +kernel
theorem dX3_link_14 : decode cX3_link 14 = .ok (.invokevirtual 242, 3) := by decide +kernel
theorem dX3_link_17 : decode cX3_link 17 = .ok (.ifCond .ne 9, 3) := by decide +kernel
theorem dX3_link_20 : decode cX3_link 20 = .ok (.aload_n 1, 1) := by decide +kernel
theorem dX3_link_21 : decode cX3_link 21 = .ok (.iconst 3, 1) := by decide +kernel
theorem dX3_link_22 : decode cX3_link 22 = .ok (.putfield 50, 3) := by decide +kernel
theorem dX3_link_25 : decode cX3_link 25 = .ok (.return_, 1) := by decide +kernel
theorem dX3_link_26 : decode cX3_link 26 = .ok (.aload_n 1, 1) := by decide +kernel
theorem dX3_link_27 : decode cX3_link 27 = .ok (.getfield 98, 3) := by decide +kernel
theorem dX3_link_30 : decode cX3_link 30 = .ok (.istore_n 2, 1) := by decide +kernel
theorem dX3_link_31 : decode cX3_link 31 = .ok (.aload_n 1, 1) := by decide +kernel
theorem dX3_link_32 : decode cX3_link 32 = .ok (.iconst (-1), 1) := by decide +kernel
theorem dX3_link_33 : decode cX3_link 33 = .ok (.putfield 98, 3) := by decide +kernel
theorem dX3_link_36 : decode cX3_link 36 = .ok (.aload_n 1, 1) := by decide +kernel
theorem dX3_link_37 : decode cX3_link 37 = .ok (.getfield 86, 3) := by decide +kernel
theorem dX3_link_40 : decode cX3_link 40 = .ok (.invokevirtual 222, 3) := by decide +kernel
theorem dX3_link_43 : decode cX3_link 43 = .ok (.ifCond .eq 22, 3) := by decide +kernel
theorem dX3_link_46 : decode cX3_link 46 = .ok (.aload_n 0, 1) := by decide +kernel
theorem dX3_link_47 : decode cX3_link 47 = .ok (.dup, 1) := by decide +kernel
theorem dX3_link_48 : decode cX3_link 48 = .ok (.getfield 29, 3) := by decide +kernel
theorem dX3_link_51 : decode cX3_link 51 = .ok (.iconst 1, 1) := by decide +kernel
theorem dX3_link_52 : decode cX3_link 52 = .ok (.iadd, 1) := by decide +kernel
theorem dX3_link_53 : decode cX3_link 53 = .ok (.putfield 29, 3) := by decide +kernel
theorem dX3_link_56 : decode cX3_link 56 = .ok (.aload_n 1, 1) := by decide +kernel
theorem dX3_link_57 : decode cX3_link 57 = .ok (.bipush 13, 2) := by decide +kernel
theorem dX3_link_59 : decode cX3_link 59 = .ok (.putfield 50, 3) := by decide +kernel
theorem dX3_link_62 : decode cX3_link 62 = .ok (.goto 14, 3) := by decide +kernel
theorem dX3_link_65 : decode cX3_link 65 = .ok (.aload_n 1, 1) := by decide +kernel
theorem dX3_link_66 : decode cX3_link 66 = .ok (.iload_n 2, 1) := by decide +kernel
theorem dX3_link_67 : decode cX3_link 67 = .ok (.putfield 226, 3) := by decide +kernel
theorem dX3_link_70 : decode cX3_link 70 = .ok (.aload_n 1, 1) := by decide +kernel
theorem dX3_link_71 : decode cX3_link 71 = .ok (.bipush 9, 2) := by decide +kernel
theorem dX3_link_73 : decode cX3_link 73 = .ok (.putfield 50, 3) := by decide +kernel
theorem dX3_link_76 : decode cX3_link 76 = .ok (.return_, 1) := by decide +kernel
theorem dX3_setBucket_0 : decode cX3_setBucket 0 = .ok (.aload_n 0, 1) := by decide +kernel
theorem dX3_setBucket_1 : decode cX3_setBucket 1 = .ok (.aload_n 1, 1) := by decide +kernel
theorem dX3_setBucket_2 : decode cX3_setBucket 2 = .ok (.invokevirtual 256, 3) := by decide +kernel
theorem dX3_setBucket_5 : decode cX3_setBucket 5 = .ok (.aload_n 1, 1) := by decide +kernel
theorem dX3_setBucket_6 : decode cX3_setBucket 6 = .ok (.getfield 86, 3) := by decide +kernel
theorem dX3_setBucket_9 : decode cX3_setBucket 9 = .ok (.invokevirtual 259, 3) := by decide +kernel
theorem dX3_setBucket_12 : decode cX3_setBucket 12 = .ok (.istore_n 2, 1) := by decide +kernel
theorem dX3_setBucket_13 : decode cX3_setBucket 13 = .ok (.iload_n 2, 1) := by decide +kernel
theorem dX3_setBucket_14 : decode cX3_setBucket 14 = .ok (.invokestatic 263, 3) := by decide +kernel
theorem dX3_setBucket_17 : decode cX3_setBucket 17 = .ok (.ifCond .eq 23, 3) := by decide +kernel
theorem dX3_setBucket_20 : decode cX3_setBucket 20 = .ok (.aload_n 0, 1) := by decide +kernel
theorem dX3_setBucket_21 : decode cX3_setBucket 21 = .ok (.getfield 21, 3) := by decide +kernel
theorem dX3_setBucket_24 : decode cX3_setBucket 24 = .ok (.iload_n 2, 1) := by decide +kernel
theorem dX3_setBucket_25 : decode cX3_setBucket 25 = .ok (.iaload, 1) := by decide +kernel
theorem dX3_setBucket_26 : decode cX3_setBucket 26 = .ok (.iconst (-1), 1) := by decide +kernel
theorem dX3_setBucket_27 : decode cX3_setBucket 27 = .ok (.if_icmp .ne 13, 3) := by decide +kernel
theorem dX3_setBucket_30 : decode cX3_setBucket 30 = .ok (.aload_n 0, 1) := by decide +kernel
theorem dX3_setBucket_31 : decode cX3_setBucket 31 = .ok (.getfield 21, 3) := by decide +kernel
theorem dX3_setBucket_34 : decode cX3_setBucket 34 = .ok (.iload_n 2, 1) := by decide +kernel
theorem dX3_setBucket_35 : decode cX3_setBucket 35 = .ok (.aload_n 1, 1) := by decide +kernel
theorem dX3_setBucket_36 : decode cX3_setBucket 36 = .ok (.getfield 226, 3) := by decide +kernel
theorem dX3_setBucket_39 : decode cX3_setBucket 39 = .ok (.iastore, 1) := by decide +kernel
theorem dX3_setBucket_40 : decode cX3_setBucket 40 = .ok (.aload_n 1, 1) := by decide +kernel
theorem dX3_setBucket_41 : decode cX3_setBucket 41 = .ok (.getfield 86, 3) := by decide +kernel
theorem dX3_setBucket_44 : decode cX3_setBucket 44 = .ok (.invokevirtual 266, 3) := by decide +kernel
theorem dX3_setBucket_47 : decode cX3_setBucket 47 = .ok (.aload_n 1, 1) := by decide +kernel
theorem dX3_setBucket_48 : decode cX3_setBucket 48 = .ok (.aload_n 1, 1) := by decide +kernel
theorem dX3_setBucket_49 : decode cX3_setBucket 49 = .ok (.getfield 226, 3) := by decide +kernel
theorem dX3_setBucket_52 : decode cX3_setBucket 52 = .ok (.putfield 191, 3) := by decide +kernel
theorem dX3_setBucket_55 : decode cX3_setBucket 55 = .ok (.aload_n 1, 1) := by decide +kernel
theorem dX3_setBucket_56 : decode cX3_setBucket 56 = .ok (.iconst 3, 1) := by decide +kernel
theorem dX3_setBucket_57 : decode cX3_setBucket 57 = .ok (.putfield 50, 3) := by decide +kernel
theorem dX3_setBucket_60 : decode cX3_setBucket 60 = .ok (.return_, 1) := by decide +kernel
theorem dX3_mark_0 : decode cX3_mark 0 = .ok (.aload_n 0, 1) := by decide +kernel
theorem dX3_mark_1 : decode cX3_mark 1 = .ok (.aload_n 1, 1) := by decide +kernel
theorem dX3_mark_2 : decode cX3_mark 2 = .ok (.getfield 92, 3) := by decide +kernel
theorem dX3_mark_5 : decode cX3_mark 5 = .ok (.aload_n 1, 1) := by decide +kernel
theorem dX3_mark_6 : decode cX3_mark 6 = .ok (.getfield 95, 3) := by decide +kernel
theorem dX3_mark_9 : decode cX3_mark 9 = .ok (.aload_n 1, 1) := by decide +kernel
theorem dX3_mark_10 : decode cX3_mark 10 = .ok (.getfield 95, 3) := by decide +kernel
theorem dX3_mark_13 : decode cX3_mark 13 = .ok (.iconst 1, 1) := by decide +kernel
theorem dX3_mark_14 : decode cX3_mark 14 = .ok (.invokevirtual 242, 3) := by decide +kernel
theorem dX3_mark_17 : decode cX3_mark 17 = .ok (.ifCond .eq 34, 3) := by decide +kernel
theorem dX3_mark_20 : decode cX3_mark 20 = .ok (.aload_n 0, 1) := by decide +kernel
theorem dX3_mark_21 : decode cX3_mark 21 = .ok (.dup, 1) := by decide +kernel
theorem dX3_mark_22 : decode cX3_mark 22 = .ok (.getfield 29, 3) := by decide +kernel
theorem dX3_mark_25 : decode cX3_mark 25 = .ok (.iconst 1, 1) := by decide +kernel
theorem dX3_mark_26 : decode cX3_mark 26 = .ok (.isub, 1) := by decide +kernel
theorem dX3_mark_27 : decode cX3_mark 27 = .ok (.putfield 29, 3) := by decide +kernel
theorem dX3_mark_30 : decode cX3_mark 30 = .ok (.aload_n 1, 1) := by decide +kernel
theorem dX3_mark_31 : decode cX3_mark 31 = .ok (.aload_n 0, 1) := by decide +kernel
theorem dX3_mark_32 : decode cX3_mark 32 = .ok (.aload_n 1, 1) := by decide +kernel
theorem dX3_mark_33 : decode cX3_mark 33 = .ok (.getfield 92, 3) := by decide +kernel
theorem dX3_mark_36 : decode cX3_mark 36 = .ok (.invokevirtual 235, 3) := by decide +kernel
theorem dX3_mark_39 : decode cX3_mark 39 = .ok (.putfield 269, 3) := by decide +kernel
theorem dX3_mark_42 : decode cX3_mark 42 = .ok (.aload_n 1, 1) := by decide +kernel
theorem dX3_mark_43 : decode cX3_mark 43 = .ok (.bipush 11, 2) := by decide +kernel
theorem dX3_mark_45 : decode cX3_mark 45 = .ok (.putfield 50, 3) := by decide +kernel
theorem dX3_mark_48 : decode cX3_mark 48 = .ok (.goto 8, 3) := by decide +kernel
theorem dX3_mark_51 : decode cX3_mark 51 = .ok (.aload_n 1, 1) := by decide +kernel
theorem dX3_mark_52 : decode cX3_mark 52 = .ok (.iconst 3, 1) := by decide +kernel
theorem dX3_mark_53 : decode cX3_mark 53 = .ok (.putfield 50, 3) := by decide +kernel
theorem dX3_mark_56 : decode cX3_mark 56 = .ok (.return_, 1) := by decide +kernel
theorem dX3_unlinkRemoved_0 : decode cX3_unlinkRemoved 0 = .ok (.aload_n 0, 1) := by decide +kernel
theorem dX3_unlinkRemoved_1 : decode cX3_unlinkRemoved 1 = .ok (.aload_n 1, 1) := by decide +kernel
theorem dX3_unlinkRemoved_2 : decode cX3_unlinkRemoved 2 = .ok (.getfield 89, 3) := by decide +kernel
theorem dX3_unlinkRemoved_5 : decode cX3_unlinkRemoved 5 = .ok (.aload_n 1, 1) := by decide +kernel
theorem dX3_unlinkRemoved_6 : decode cX3_unlinkRemoved 6 = .ok (.getfield 92, 3) := by decide +kernel
theorem dX3_unlinkRemoved_9 : decode cX3_unlinkRemoved 9 = .ok (.aload_n 1, 1) := by decide +kernel
theorem dX3_unlinkRemoved_10 : decode cX3_unlinkRemoved 10 = .ok (.getfield 95, 3) := by decide +kernel
theorem dX3_unlinkRemoved_13 : decode cX3_unlinkRemoved 13 = .ok (.iconst 0, 1) := by decide +kernel
theorem dX3_unlinkRemoved_14 : decode cX3_unlinkRemoved 14 = .ok (.invokevirtual 242, 3) := by decide +kernel
theorem dX3_unlinkRemoved_17 : decode cX3_unlinkRemoved 17 = .ok (.ifCond .eq 21, 3) := by decide +kernel
theorem dX3_unlinkRemoved_20 : decode cX3_unlinkRemoved 20 = .ok (.aload_n 0, 1) := by decide +kernel
theorem dX3_unlinkRemoved_21 : decode cX3_unlinkRemoved 21 = .ok (.aload_n 1, 1) := by decide +kernel
theorem dX3_unlinkRemoved_22 : decode cX3_unlinkRemoved 22 = .ok (.aload_n 1, 1) := by decide +kernel
theorem dX3_unlinkRemoved_23 : decode cX3_unlinkRemoved 23 = .ok (.getfield 92, 3) := by decide +kernel
theorem dX3_unlinkRemoved_26 : decode cX3_unlinkRemoved 26 = .ok (.invokevirtual 246, 3) := by decide +kernel
theorem dX3_unlinkRemoved_29 : decode cX3_unlinkRemoved 29 = .ok (.aload_n 1, 1) := by decide +kernel
theorem dX3_unlinkRemoved_30 : decode cX3_unlinkRemoved 30 = .ok (.bipush 12, 2) := by decide +kernel
theorem dX3_unlinkRemoved_32 : decode cX3_unlinkRemoved 32 = .ok (.putfield 50, 3) := by decide +kernel
theorem dX3_unlinkRemoved_35 : decode cX3_unlinkRemoved 35 = .ok (.goto 13, 3) := by decide +kernel
theorem dX3_unlinkRemoved_38 : decode cX3_unlinkRemoved 38 = .ok (.aload_n 1, 1) := by decide +kernel
theorem dX3_unlinkRemoved_39 : decode cX3_unlinkRemoved 39 = .ok (.iconst 1, 1) := by decide +kernel
theorem dX3_unlinkRemoved_40 : decode cX3_unlinkRemoved 40 = .ok (.putfield 229, 3) := by decide +kernel
theorem dX3_unlinkRemoved_43 : decode cX3_unlinkRemoved 43 = .ok (.aload_n 1, 1) := by decide +kernel
theorem dX3_unlinkRemoved_44 : decode cX3_unlinkRemoved 44 = .ok (.iconst 3, 1) := by decide +kernel
theorem dX3_unlinkRemoved_45 : decode cX3_unlinkRemoved 45 = .ok (.putfield 50, 3) := by decide +kernel
theorem dX3_unlinkRemoved_48 : decode cX3_unlinkRemoved 48 = .ok (.return_, 1) := by decide +kernel
theorem dX3_giveBack_0 : decode cX3_giveBack 0 = .ok (.iconst 0, 1) := by decide +kernel
theorem dX3_giveBack_1 : decode cX3_giveBack 1 = .ok (.istore_n 2, 1) := by decide +kernel
theorem dX3_giveBack_2 : decode cX3_giveBack 2 = .ok (.iconst 0, 1) := by decide +kernel
theorem dX3_giveBack_3 : decode cX3_giveBack 3 = .ok (.istore_n 3, 1) := by decide +kernel
theorem dX3_giveBack_4 : decode cX3_giveBack 4 = .ok (.iload_n 3, 1) := by decide +kernel
theorem dX3_giveBack_5 : decode cX3_giveBack 5 = .ok (.aload_n 1, 1) := by decide +kernel
theorem dX3_giveBack_6 : decode cX3_giveBack 6 = .ok (.getfield 77, 3) := by decide +kernel
theorem dX3_giveBack_9 : decode cX3_giveBack 9 = .ok (.getfield 81, 3) := by decide +kernel
theorem dX3_giveBack_12 : decode cX3_giveBack 12 = .ok (.if_icmp .ge 71, 3) := by decide +kernel
theorem dX3_giveBack_15 : decode cX3_giveBack 15 = .ok (.aload_n 1, 1) := by decide +kernel
theorem dX3_giveBack_16 : decode cX3_giveBack 16 = .ok (.getfield 77, 3) := by decide +kernel
theorem dX3_giveBack_19 : decode cX3_giveBack 19 = .ok (.iload_n 3, 1) := by decide +kernel
theorem dX3_giveBack_20 : decode cX3_giveBack 20 = .ok (.invokevirtual 272, 3) := by decide +kernel
theorem dX3_giveBack_23 : decode cX3_giveBack 23 = .ok (.istore 4, 2) := by decide +kernel
theorem dX3_giveBack_25 : decode cX3_giveBack 25 = .ok (.iload 4, 2) := by decide +kernel
theorem dX3_giveBack_27 : decode cX3_giveBack 27 = .ok (.invokestatic 103, 3) := by decide +kernel
theorem dX3_giveBack_30 : decode cX3_giveBack 30 = .ok (.ifCond .ne 6, 3) := by decide +kernel
theorem dX3_giveBack_33 : decode cX3_giveBack 33 = .ok (.goto 44, 3) := by decide +kernel
theorem dX3_giveBack_36 : decode cX3_giveBack 36 = .ok (.aload_n 0, 1) := by decide +kernel
theorem dX3_giveBack_37 : decode cX3_giveBack 37 = .ok (.aload_n 0, 1) := by decide +kernel
theorem dX3_giveBack_38 : decode cX3_giveBack 38 = .ok (.getfield 11, 3) := by decide +kernel
theorem dX3_giveBack_41 : decode cX3_giveBack 41 = .ok (.iload 4, 2) := by decide +kernel
theorem dX3_giveBack_43 : decode cX3_giveBack 43 = .ok (.aaload, 1) := by decide +kernel
theorem dX3_giveBack_44 : decode cX3_giveBack 44 = .ok (.invokevirtual 275, 3) := by decide +kernel
theorem dX3_giveBack_47 : decode cX3_giveBack 47 = .ok (.ifCond .eq 19, 3) := by decide +kernel
theorem dX3_giveBack_50 : decode cX3_giveBack 50 = .ok (.aload_n 1, 1) := by decide +kernel
theorem dX3_giveBack_51 : decode cX3_giveBack 51 = .ok (.getfield 77, 3) := by decide +kernel
theorem dX3_giveBack_54 : decode cX3_giveBack 54 = .ok (.iload_n 2, 1) := by decide +kernel
theorem dX3_giveBack_55 : decode cX3_giveBack 55 = .ok (.iload 4, 2) := by decide +kernel
theorem dX3_giveBack_57 : decode cX3_giveBack 57 = .ok (.invokevirtual 279, 3) := by decide +kernel
theorem dX3_giveBack_60 : decode cX3_giveBack 60 = .ok (.iinc 2 1, 3) := by decide +kernel
theorem dX3_giveBack_63 : decode cX3_giveBack 63 = .ok (.goto 14, 3) := by decide +kernel
theorem dX3_giveBack_66 : decode cX3_giveBack 66 = .ok (.aload_n 0, 1) := by decide +kernel
theorem dX3_giveBack_67 : decode cX3_giveBack 67 = .ok (.getfield 11, 3) := by decide +kernel
theorem dX3_giveBack_70 : decode cX3_giveBack 70 = .ok (.iload 4, 2) := by decide +kernel
theorem dX3_giveBack_72 : decode cX3_giveBack 72 = .ok (.aaload, 1) := by decide +kernel
theorem dX3_giveBack_73 : decode cX3_giveBack 73 = .ok (.iconst 0, 1) := by decide +kernel
theorem dX3_giveBack_74 : decode cX3_giveBack 74 = .ok (.putfield 108, 3) := by decide +kernel
theorem dX3_giveBack_77 : decode cX3_giveBack 77 = .ok (.iinc 3 1, 3) := by decide +kernel
theorem dX3_giveBack_80 : decode cX3_giveBack 80 = .ok (.goto (-76), 3) := by decide +kernel
theorem dX3_giveBack_83 : decode cX3_giveBack 83 = .ok (.aload_n 1, 1) := by decide +kernel
theorem dX3_giveBack_84 : decode cX3_giveBack 84 = .ok (.getfield 77, 3) := by decide +kernel
theorem dX3_giveBack_87 : decode cX3_giveBack 87 = .ok (.iload_n 2, 1) := by decide +kernel
theorem dX3_giveBack_88 : decode cX3_giveBack 88 = .ok (.invokevirtual 187, 3) := by decide +kernel
theorem dX3_giveBack_91 : decode cX3_giveBack 91 = .ok (.aload_n 0, 1) := by decide +kernel
theorem dX3_giveBack_92 : decode cX3_giveBack 92 = .ok (.aload_n 1, 1) := by decide +kernel
theorem dX3_giveBack_93 : decode cX3_giveBack 93 = .ok (.aload_n 1, 1) := by decide +kernel
theorem dX3_giveBack_94 : decode cX3_giveBack 94 = .ok (.getfield 269, 3) := by decide +kernel
theorem dX3_giveBack_97 : decode cX3_giveBack 97 = .ok (.invokevirtual 238, 3) := by decide +kernel
theorem dX3_giveBack_100 : decode cX3_giveBack 100 = .ok (.return_, 1) := by decide +kernel
theorem dX3_grow_0 : decode cX3_grow 0 = .ok (.aload_n 0, 1) := by decide +kernel
theorem dX3_grow_1 : decode cX3_grow 1 = .ok (.getfield 29, 3) := by decide +kernel
theorem dX3_grow_4 : decode cX3_grow 4 = .ok (.iconst 2, 1) := by decide +kernel
theorem dX3_grow_5 : decode cX3_grow 5 = .ok (.aload_n 0, 1) := by decide +kernel
theorem dX3_grow_6 : decode cX3_grow 6 = .ok (.getfield 25, 3) := by decide +kernel
theorem dX3_grow_9 : decode cX3_grow 9 = .ok (.imul, 1) := by decide +kernel
theorem dX3_grow_10 : decode cX3_grow 10 = .ok (.if_icmp .le 22, 3) := by decide +kernel
theorem dX3_grow_13 : decode cX3_grow 13 = .ok (.aload_n 0, 1) := by decide +kernel
theorem dX3_grow_14 : decode cX3_grow 14 = .ok (.getfield 25, 3) := by decide +kernel
theorem dX3_grow_17 : decode cX3_grow 17 = .ok (.bipush 16, 2) := by decide +kernel
theorem dX3_grow_19 : decode cX3_grow 19 = .ok (.if_icmp .ge 13, 3) := by decide +kernel
theorem dX3_grow_22 : decode cX3_grow 22 = .ok (.aload_n 0, 1) := by decide +kernel
theorem dX3_grow_23 : decode cX3_grow 23 = .ok (.iconst 2, 1) := by decide +kernel
theorem dX3_grow_24 : decode cX3_grow 24 = .ok (.aload_n 0, 1) := by decide +kernel
theorem dX3_grow_25 : decode cX3_grow 25 = .ok (.getfield 25, 3) := by decide +kernel
theorem dX3_grow_28 : decode cX3_grow 28 = .ok (.imul, 1) := by decide +kernel
theorem dX3_grow_29 : decode cX3_grow 29 = .ok (.putfield 25, 3) := by decide +kernel
theorem dX3_grow_32 : decode cX3_grow 32 = .ok (.aload_n 0, 1) := by decide +kernel
theorem dX3_grow_33 : decode cX3_grow 33 = .ok (.aload_n 1, 1) := by decide +kernel
theorem dX3_grow_34 : decode cX3_grow 34 = .ok (.iconst 1, 1) := by decide +kernel
theorem dX3_grow_35 : decode cX3_grow 35 = .ok (.invokevirtual 238, 3) := by decide +kernel
theorem dX3_grow_38 : decode cX3_grow 38 = .ok (.return_, 1) := by decide +kernel
theorem dX3_end_0 : decode cX3_end 0 = .ok (.aload_n 0, 1) := by decide +kernel
theorem dX3_end_1 : decode cX3_end 1 = .ok (.aload_n 1, 1) := by decide +kernel
theorem dX3_end_2 : decode cX3_end 2 = .ok (.invokevirtual 256, 3) := by decide +kernel
theorem dX3_end_5 : decode cX3_end 5 = .ok (.aload_n 1, 1) := by decide +kernel
theorem dX3_end_6 : decode cX3_end 6 = .ok (.iload_n 2, 1) := by decide +kernel
theorem dX3_end_7 : decode cX3_end 7 = .ok (.invokevirtual 283, 3) := by decide +kernel
theorem dX3_end_10 : decode cX3_end 10 = .ok (.return_, 1) := by decide +kernel
theorem dX3_mayLoad_0 : decode cX3_mayLoad 0 = .ok (.aload_n 1, 1) := by decide +kernel
theorem dX3_mayLoad_1 : decode cX3_mayLoad 1 = .ok (.getfield 74, 3) := by decide +kernel
theorem dX3_mayLoad_4 : decode cX3_mayLoad 4 = .ok (.aload_n 0, 1) := by decide +kernel
theorem dX3_mayLoad_5 : decode cX3_mayLoad 5 = .ok (.getfield 32, 3) := by decide +kernel
theorem dX3_mayLoad_8 : decode cX3_mayLoad 8 = .ok (.if_icmp .ne 5, 3) := by decide +kernel
theorem dX3_mayLoad_11 : decode cX3_mayLoad 11 = .ok (.iconst 1, 1) := by decide +kernel
theorem dX3_mayLoad_12 : decode cX3_mayLoad 12 = .ok (.ireturn, 1) := by decide +kernel
theorem dX3_mayLoad_13 : decode cX3_mayLoad 13 = .ok (.aload_n 1, 1) := by decide +kernel
theorem dX3_mayLoad_14 : decode cX3_mayLoad 14 = .ok (.aload_n 0, 1) := by decide +kernel
theorem dX3_mayLoad_15 : decode cX3_mayLoad 15 = .ok (.getfield 32, 3) := by decide +kernel
theorem dX3_mayLoad_18 : decode cX3_mayLoad 18 = .ok (.putfield 74, 3) := by decide +kernel
theorem dX3_mayLoad_21 : decode cX3_mayLoad 21 = .ok (.iconst 0, 1) := by decide +kernel
theorem dX3_mayLoad_22 : decode cX3_mayLoad 22 = .ok (.ireturn, 1) := by decide +kernel
theorem dX3_leadsTo_0 : decode cX3_leadsTo 0 = .ok (.iload_n 1, 1) := by decide +kernel
theorem dX3_leadsTo_1 : decode cX3_leadsTo 1 = .ok (.invokestatic 103, 3) := by decide +kernel
theorem dX3_leadsTo_4 : decode cX3_leadsTo 4 = .ok (.ifCond .eq 32, 3) := by decide +kernel
theorem dX3_leadsTo_7 : decode cX3_leadsTo 7 = .ok (.aload_n 0, 1) := by decide +kernel
theorem dX3_leadsTo_8 : decode cX3_leadsTo 8 = .ok (.getfield 11, 3) := by decide +kernel
theorem dX3_leadsTo_11 : decode cX3_leadsTo 11 = .ok (.iload_n 1, 1) := by decide +kernel
theorem dX3_leadsTo_12 : decode cX3_leadsTo 12 = .ok (.aaload, 1) := by decide +kernel
theorem dX3_leadsTo_13 : decode cX3_leadsTo 13 = .ok (.getfield 114, 3) := by decide +kernel
theorem dX3_leadsTo_16 : decode cX3_leadsTo 16 = .ok (.iload_n 2, 1) := by decide +kernel
theorem dX3_leadsTo_17 : decode cX3_leadsTo 17 = .ok (.if_icmp .ne 19, 3) := by decide +kernel
theorem dX3_leadsTo_20 : decode cX3_leadsTo 20 = .ok (.aload_n 0, 1) := by decide +kernel
theorem dX3_leadsTo_21 : decode cX3_leadsTo 21 = .ok (.getfield 11, 3) := by decide +kernel
theorem dX3_leadsTo_24 : decode cX3_leadsTo 24 = .ok (.iload_n 1, 1) := by decide +kernel
theorem dX3_leadsTo_25 : decode cX3_leadsTo 25 = .ok (.aaload, 1) := by decide +kernel
theorem dX3_leadsTo_26 : decode cX3_leadsTo 26 = .ok (.getfield 117, 3) := by decide +kernel
theorem dX3_leadsTo_29 : decode cX3_leadsTo 29 = .ok (.ifCond .ne 7, 3) := by decide +kernel
theorem dX3_leadsTo_32 : decode cX3_leadsTo 32 = .ok (.iconst 1, 1) := by decide +kernel
theorem dX3_leadsTo_33 : decode cX3_leadsTo 33 = .ok (.goto 4, 3) := by decide +kernel
theorem dX3_leadsTo_36 : decode cX3_leadsTo 36 = .ok (.iconst 0, 1) := by decide +kernel
theorem dX3_leadsTo_37 : decode cX3_leadsTo 37 = .ok (.ireturn, 1) := by decide +kernel
theorem dX3_change_0 : decode cX3_change 0 = .ok (.aload_n 0, 1) := by decide +kernel
theorem dX3_change_1 : decode cX3_change 1 = .ok (.iload_n 1, 1) := by decide +kernel
theorem dX3_change_2 : decode cX3_change 2 = .ok (.iload_n 2, 1) := by decide +kernel
theorem dX3_change_3 : decode cX3_change 3 = .ok (.invokevirtual 214, 3) := by decide +kernel
theorem dX3_change_6 : decode cX3_change 6 = .ok (.ifCond .ne 5, 3) := by decide +kernel
theorem dX3_change_9 : decode cX3_change 9 = .ok (.iconst 0, 1) := by decide +kernel
theorem dX3_change_10 : decode cX3_change 10 = .ok (.ireturn, 1) := by decide +kernel
theorem dX3_change_11 : decode cX3_change 11 = .ok (.aload_n 0, 1) := by decide +kernel
theorem dX3_change_12 : decode cX3_change 12 = .ok (.getfield 11, 3) := by decide +kernel
theorem dX3_change_15 : decode cX3_change 15 = .ok (.iload_n 1, 1) := by decide +kernel
theorem dX3_change_16 : decode cX3_change 16 = .ok (.aaload, 1) := by decide +kernel
theorem dX3_change_17 : decode cX3_change 17 = .ok (.iload_n 3, 1) := by decide +kernel
theorem dX3_change_18 : decode cX3_change 18 = .ok (.iload 4, 2) := by decide +kernel
theorem dX3_change_20 : decode cX3_change 20 = .ok (.invokevirtual 252, 3) := by decide +kernel
theorem dX3_change_23 : decode cX3_change 23 = .ok (.iconst 1, 1) := by decide +kernel
theorem dX3_change_24 : decode cX3_change 24 = .ok (.ireturn, 1) := by decide +kernel
theorem dX3_retire_0 : decode cX3_retire 0 = .ok (.iload_n 2, 1) := by decide +kernel
theorem dX3_retire_1 : decode cX3_retire 1 = .ok (.invokestatic 103, 3) := by decide +kernel
theorem dX3_retire_4 : decode cX3_retire 4 = .ok (.ifCond .ne 4, 3) := by decide +kernel
theorem dX3_retire_7 : decode cX3_retire 7 = .ok (.return_, 1) := by decide +kernel
theorem dX3_retire_8 : decode cX3_retire 8 = .ok (.aload_n 0, 1) := by decide +kernel
theorem dX3_retire_9 : decode cX3_retire 9 = .ok (.getfield 11, 3) := by decide +kernel
theorem dX3_retire_12 : decode cX3_retire 12 = .ok (.iload_n 2, 1) := by decide +kernel
theorem dX3_retire_13 : decode cX3_retire 13 = .ok (.aaload, 1) := by decide +kernel
theorem dX3_retire_14 : decode cX3_retire 14 = .ok (.iconst 2, 1) := by decide +kernel
theorem dX3_retire_15 : decode cX3_retire 15 = .ok (.putfield 108, 3) := by decide +kernel
theorem dX3_retire_18 : decode cX3_retire 18 = .ok (.aload_n 0, 1) := by decide +kernel
theorem dX3_retire_19 : decode cX3_retire 19 = .ok (.getfield 11, 3) := by decide +kernel
theorem dX3_retire_22 : decode cX3_retire 22 = .ok (.iload_n 2, 1) := by decide +kernel
theorem dX3_retire_23 : decode cX3_retire 23 = .ok (.aaload, 1) := by decide +kernel
theorem dX3_retire_24 : decode cX3_retire 24 = .ok (.aload_n 0, 1) := by decide +kernel
theorem dX3_retire_25 : decode cX3_retire 25 = .ok (.getfield 32, 3) := by decide +kernel
theorem dX3_retire_28 : decode cX3_retire 28 = .ok (.putfield 130, 3) := by decide +kernel
theorem dX3_retire_31 : decode cX3_retire 31 = .ok (.aload_n 0, 1) := by decide +kernel
theorem dX3_retire_32 : decode cX3_retire 32 = .ok (.dup, 1) := by decide +kernel
theorem dX3_retire_33 : decode cX3_retire 33 = .ok (.getfield 32, 3) := by decide +kernel
theorem dX3_retire_36 : decode cX3_retire 36 = .ok (.iconst 1, 1) := by decide +kernel
theorem dX3_retire_37 : decode cX3_retire 37 = .ok (.iadd, 1) := by decide +kernel
theorem dX3_retire_38 : decode cX3_retire 38 = .ok (.putfield 32, 3) := by decide +kernel
theorem dX3_retire_41 : decode cX3_retire 41 = .ok (.aload_n 1, 1) := by decide +kernel
theorem dX3_retire_42 : decode cX3_retire 42 = .ok (.getfield 77, 3) := by decide +kernel
theorem dX3_retire_45 : decode cX3_retire 45 = .ok (.iload_n 2, 1) := by decide +kernel
theorem dX3_retire_46 : decode cX3_retire 46 = .ok (.invokevirtual 194, 3) := by decide +kernel
theorem dX3_retire_49 : decode cX3_retire 49 = .ok (.return_, 1) := by decide +kernel
theorem dX3_takeFreeNode_0 : decode cX3_takeFreeNode 0 = .ok (.aload_n 1, 1) := by decide +kernel
theorem dX3_takeFreeNode_1 : decode cX3_takeFreeNode 1 = .ok (.getfield 86, 3) := by decide +kernel
theorem dX3_takeFreeNode_4 : decode cX3_takeFreeNode 4 = .ok (.invokevirtual 222, 3) := by decide +kernel
theorem dX3_takeFreeNode_7 : decode cX3_takeFreeNode 7 = .ok (.istore_n 2, 1) := by decide +kernel
theorem dX3_takeFreeNode_8 : decode cX3_takeFreeNode 8 = .ok (.iconst 0, 1) := by decide +kernel
theorem dX3_takeFreeNode_9 : decode cX3_takeFreeNode 9 = .ok (.istore_n 3, 1) := by decide +kernel
theorem dX3_takeFreeNode_10 : decode cX3_takeFreeNode 10 = .ok (.iload_n 3, 1) := by decide +kernel
theorem dX3_takeFreeNode_11 : decode cX3_takeFreeNode 11 = .ok (.bipush 64, 2) := by decide +kernel
theorem dX3_takeFreeNode_13 : decode cX3_takeFreeNode 13 = .ok (.if_icmp .ge 64, 3) := by decide +kernel
theorem dX3_takeFreeNode_16 : decode cX3_takeFreeNode 16 = .ok (.aload_n 0, 1) := by decide +kernel
theorem dX3_takeFreeNode_17 : decode cX3_takeFreeNode 17 = .ok (.getfield 11, 3) := by decide +kernel
theorem dX3_takeFreeNode_20 : decode cX3_takeFreeNode 20 = .ok (.iload_n 3, 1) := by decide +kernel
theorem dX3_takeFreeNode_21 : decode cX3_takeFreeNode 21 = .ok (.aaload, 1) := by decide +kernel
theorem dX3_takeFreeNode_22 : decode cX3_takeFreeNode 22 = .ok (.getfield 108, 3) := by decide +kernel
theorem dX3_takeFreeNode_25 : decode cX3_takeFreeNode 25 = .ok (.ifCond .ne 46, 3) := by decide +kernel
theorem dX3_takeFreeNode_28 : decode cX3_takeFreeNode 28 = .ok (.aload_n 0, 1) := by decide +kernel
theorem dX3_takeFreeNode_29 : decode cX3_takeFreeNode 29 = .ok (.getfield 11, 3) := by decide +kernel
theorem dX3_takeFreeNode_32 : decode cX3_takeFreeNode 32 = .ok (.iload_n 3, 1) := by decide +kernel
theorem dX3_takeFreeNode_33 : decode cX3_takeFreeNode 33 = .ok (.aaload, 1) := by decide +kernel
theorem dX3_takeFreeNode_34 : decode cX3_takeFreeNode 34 = .ok (.aload_n 1, 1) := by decide +kernel
theorem dX3_takeFreeNode_35 : decode cX3_takeFreeNode 35 = .ok (.invokestatic 218, 3) := by decide +kernel
theorem dX3_takeFreeNode_38 : decode cX3_takeFreeNode 38 = .ok (.iload_n 2, 1) := by decide +kernel
theorem dX3_takeFreeNode_39 : decode cX3_takeFreeNode 39 = .ok (.ifCond .eq 10, 3) := by decide +kernel
theorem dX3_takeFreeNode_42 : decode cX3_takeFreeNode 42 = .ok (.aload_n 1, 1) := by decide +kernel
theorem dX3_takeFreeNode_43 : decode cX3_takeFreeNode 43 = .ok (.getfield 180, 3) := by decide +kernel
theorem dX3_takeFreeNode_46 : decode cX3_takeFreeNode 46 = .ok (.goto 4, 3) := by decide +kernel
theorem dX3_takeFreeNode_49 : decode cX3_takeFreeNode 49 = .ok (.iconst (-1), 1) := by decide +kernel
theorem dX3_takeFreeNode_50 : decode cX3_takeFreeNode 50 = .ok (.iload_n 2, 1) := by decide +kernel
theorem dX3_takeFreeNode_51 : decode cX3_takeFreeNode 51 = .ok (.ifCond .eq 10, 3) := by decide +kernel
theorem dX3_takeFreeNode_54 : decode cX3_takeFreeNode 54 = .ok (.aload_n 1, 1) := by decide +kernel
theorem dX3_takeFreeNode_55 : decode cX3_takeFreeNode 55 = .ok (.getfield 286, 3) := by decide +kernel
theorem dX3_takeFreeNode_58 : decode cX3_takeFreeNode 58 = .ok (.goto 4, 3) := by decide +kernel
theorem dX3_takeFreeNode_61 : decode cX3_takeFreeNode 61 = .ok (.iconst 0, 1) := by decide +kernel
theorem dX3_takeFreeNode_62 : decode cX3_takeFreeNode 62 = .ok (.aload_n 0, 1) := by decide +kernel
theorem dX3_takeFreeNode_63 : decode cX3_takeFreeNode 63 = .ok (.getfield 32, 3) := by decide +kernel
theorem dX3_takeFreeNode_66 : decode cX3_takeFreeNode 66 = .ok (.invokevirtual 41, 3) := by decide +kernel
theorem dX3_takeFreeNode_69 : decode cX3_takeFreeNode 69 = .ok (.iload_n 3, 1) := by decide +kernel
theorem dX3_takeFreeNode_70 : decode cX3_takeFreeNode 70 = .ok (.ireturn, 1) := by decide +kernel
theorem dX3_takeFreeNode_71 : decode cX3_takeFreeNode 71 = .ok (.iinc 3 1, 3) := by decide +kernel
theorem dX3_takeFreeNode_74 : decode cX3_takeFreeNode 74 = .ok (.goto (-64), 3) := by decide +kernel
theorem dX3_takeFreeNode_77 : decode cX3_takeFreeNode 77 = .ok (.iconst (-1), 1) := by decide +kernel
theorem dX3_takeFreeNode_78 : decode cX3_takeFreeNode 78 = .ok (.ireturn, 1) := by decide +kernel
theorem dX3_freeOwn_0 : decode cX3_freeOwn 0 = .ok (.aload_n 1, 1) := by decide +kernel
theorem dX3_freeOwn_1 : decode cX3_freeOwn 1 = .ok (.getfield 98, 3) := by decide +kernel
theorem dX3_freeOwn_4 : decode cX3_freeOwn 4 = .ok (.invokestatic 103, 3) := by decide +kernel
theorem dX3_freeOwn_7 : decode cX3_freeOwn 7 = .ok (.ifCond .eq 16, 3) := by decide +kernel
theorem dX3_freeOwn_10 : decode cX3_freeOwn 10 = .ok (.aload_n 0, 1) := by decide +kernel
theorem dX3_freeOwn_11 : decode cX3_freeOwn 11 = .ok (.getfield 11, 3) := by decide +kernel
theorem dX3_freeOwn_14 : decode cX3_freeOwn 14 = .ok (.aload_n 1, 1) := by decide +kernel
theorem dX3_freeOwn_15 : decode cX3_freeOwn 15 = .ok (.getfield 98, 3) := by decide +kernel
theorem dX3_freeOwn_18 : decode cX3_freeOwn 18 = .ok (.aaload, 1) := by decide +kernel
theorem dX3_freeOwn_19 : decode cX3_freeOwn 19 = .ok (.iconst 0, 1) := by decide +kernel
theorem dX3_freeOwn_20 : decode cX3_freeOwn 20 = .ok (.putfield 108, 3) := by decide +kernel
theorem dX3_freeOwn_23 : decode cX3_freeOwn 23 = .ok (.aload_n 1, 1) := by decide +kernel
theorem dX3_freeOwn_24 : decode cX3_freeOwn 24 = .ok (.iconst (-1), 1) := by decide +kernel
theorem dX3_freeOwn_25 : decode cX3_freeOwn 25 = .ok (.putfield 98, 3) := by decide +kernel
theorem dX3_freeOwn_28 : decode cX3_freeOwn 28 = .ok (.return_, 1) := by decide +kernel
theorem dX3_canBeReached_0 : decode cX3_canBeReached 0 = .ok (.iconst 0, 1) := by decide +kernel
theorem dX3_canBeReached_1 : decode cX3_canBeReached 1 = .ok (.istore_n 2, 1) := by decide +kernel
theorem dX3_canBeReached_2 : decode cX3_canBeReached 2 = .ok (.iload_n 2, 1) := by decide +kernel
theorem dX3_canBeReached_3 : decode cX3_canBeReached 3 = .ok (.iconst 4, 1) := by decide +kernel
theorem dX3_canBeReached_4 : decode cX3_canBeReached 4 = .ok (.if_icmp .ge 47, 3) := by decide +kernel
theorem dX3_canBeReached_7 : decode cX3_canBeReached 7 = .ok (.aload_n 0, 1) := by decide +kernel
theorem dX3_canBeReached_8 : decode cX3_canBeReached 8 = .ok (.getfield 17, 3) := by decide +kernel
theorem dX3_canBeReached_11 : decode cX3_canBeReached 11 = .ok (.iload_n 2, 1) := by decide +kernel
theorem dX3_canBeReached_12 : decode cX3_canBeReached 12 = .ok (.aaload, 1) := by decide +kernel
theorem dX3_canBeReached_13 : decode cX3_canBeReached 13 = .ok (.astore_n 3, 1) := by decide +kernel
theorem dX3_canBeReached_14 : decode cX3_canBeReached 14 = .ok (.aload_n 3, 1) := by decide +kernel
theorem dX3_canBeReached_15 : decode cX3_canBeReached 15 = .ok (.getfield 50, 3) := by decide +kernel
theorem dX3_canBeReached_18 : decode cX3_canBeReached 18 = .ok (.ifCond .eq 27, 3) := by decide +kernel
theorem dX3_canBeReached_21 : decode cX3_canBeReached 21 = .ok (.aload_n 3, 1) := by decide +kernel
theorem dX3_canBeReached_22 : decode cX3_canBeReached 22 = .ok (.getfield 71, 3) := by decide +kernel
theorem dX3_canBeReached_25 : decode cX3_canBeReached 25 = .ok (.aload_n 1, 1) := by decide +kernel
theorem dX3_canBeReached_26 : decode cX3_canBeReached 26 = .ok (.getfield 130, 3) := by decide +kernel
theorem dX3_canBeReached_29 : decode cX3_canBeReached 29 = .ok (.if_icmp .gt 16, 3) := by decide +kernel
theorem dX3_canBeReached_32 : decode cX3_canBeReached 32 = .ok (.aload_n 1, 1) := by decide +kernel
theorem dX3_canBeReached_33 : decode cX3_canBeReached 33 = .ok (.getfield 127, 3) := by decide +kernel
theorem dX3_canBeReached_36 : decode cX3_canBeReached 36 = .ok (.aload_n 3, 1) := by decide +kernel
theorem dX3_canBeReached_37 : decode cX3_canBeReached 37 = .ok (.getfield 74, 3) := by decide +kernel
theorem dX3_canBeReached_40 : decode cX3_canBeReached 40 = .ok (.if_icmp .gt 5, 3) := by decide +kernel
theorem dX3_canBeReached_43 : decode cX3_canBeReached 43 = .ok (.iconst 1, 1) := by decide +kernel
theorem dX3_canBeReached_44 : decode cX3_canBeReached 44 = .ok (.ireturn, 1) := by decide +kernel
theorem dX3_canBeReached_45 : decode cX3_canBeReached 45 = .ok (.iinc 2 1, 3) := by decide +kernel
theorem dX3_canBeReached_48 : decode cX3_canBeReached 48 = .ok (.goto (-46), 3) := by decide +kernel
theorem dX3_canBeReached_51 : decode cX3_canBeReached 51 = .ok (.iconst 0, 1) := by decide +kernel
theorem dX3_canBeReached_52 : decode cX3_canBeReached 52 = .ok (.ireturn, 1) := by decide +kernel
theorem dX3_countNodes_0 : decode cX3_countNodes 0 = .ok (.iconst 0, 1) := by decide +kernel
theorem dX3_countNodes_1 : decode cX3_countNodes 1 = .ok (.istore_n 2, 1) := by decide +kernel
theorem dX3_countNodes_2 : decode cX3_countNodes 2 = .ok (.iconst 0, 1) := by decide +kernel
theorem dX3_countNodes_3 : decode cX3_countNodes 3 = .ok (.istore_n 3, 1) := by decide +kernel
theorem dX3_countNodes_4 : decode cX3_countNodes 4 = .ok (.iload_n 3, 1) := by decide +kernel
theorem dX3_countNodes_5 : decode cX3_countNodes 5 = .ok (.bipush 64, 2) := by decide +kernel
theorem dX3_countNodes_7 : decode cX3_countNodes 7 = .ok (.if_icmp .ge 25, 3) := by decide +kernel
theorem dX3_countNodes_10 : decode cX3_countNodes 10 = .ok (.aload_n 0, 1) := by decide +kernel
theorem dX3_countNodes_11 : decode cX3_countNodes 11 = .ok (.getfield 11, 3) := by decide +kernel
theorem dX3_countNodes_14 : decode cX3_countNodes 14 = .ok (.iload_n 3, 1) := by decide +kernel
theorem dX3_countNodes_15 : decode cX3_countNodes 15 = .ok (.aaload, 1) := by decide +kernel
theorem dX3_countNodes_16 : decode cX3_countNodes 16 = .ok (.getfield 108, 3) := by decide +kernel
theorem dX3_countNodes_19 : decode cX3_countNodes 19 = .ok (.iload_n 1, 1) := by decide +kernel
theorem dX3_countNodes_20 : decode cX3_countNodes 20 = .ok (.if_icmp .ne 6, 3) := by decide +kernel
theorem dX3_countNodes_23 : decode cX3_countNodes 23 = .ok (.iinc 2 1, 3) := by decide +kernel
theorem dX3_countNodes_26 : decode cX3_countNodes 26 = .ok (.iinc 3 1, 3) := by decide +kernel
theorem dX3_countNodes_29 : decode cX3_countNodes 29 = .ok (.goto (-25), 3) := by decide +kernel
theorem dX3_countNodes_32 : decode cX3_countNodes 32 = .ok (.iload_n 2, 1) := by decide +kernel
theorem dX3_countNodes_33 : decode cX3_countNodes 33 = .ok (.ireturn, 1) := by decide +kernel
theorem dX3_nextOf_0 : decode cX3_nextOf 0 = .ok (.iload_n 1, 1) := by decide +kernel
theorem dX3_nextOf_1 : decode cX3_nextOf 1 = .ok (.invokestatic 103, 3) := by decide +kernel
theorem dX3_nextOf_4 : decode cX3_nextOf 4 = .ok (.ifCond .eq 15, 3) := by decide +kernel
theorem dX3_nextOf_7 : decode cX3_nextOf 7 = .ok (.aload_n 0, 1) := by decide +kernel
theorem dX3_nextOf_8 : decode cX3_nextOf 8 = .ok (.getfield 11, 3) := by decide +kernel
theorem dX3_nextOf_11 : decode cX3_nextOf 11 = .ok (.iload_n 1, 1) := by decide +kernel
theorem dX3_nextOf_12 : decode cX3_nextOf 12 = .ok (.aaload, 1) := by decide +kernel
theorem dX3_nextOf_13 : decode cX3_nextOf 13 = .ok (.getfield 114, 3) := by decide +kernel
theorem dX3_nextOf_16 : decode cX3_nextOf 16 = .ok (.goto 4, 3) := by decide +kernel
theorem dX3_nextOf_19 : decode cX3_nextOf 19 = .ok (.iconst (-1), 1) := by decide +kernel
theorem dX3_nextOf_20 : decode cX3_nextOf 20 = .ok (.ireturn, 1) := by decide +kernel
theorem dX3_valueOf_0 : decode cX3_valueOf 0 = .ok (.iload_n 1, 1) := by decide +kernel
theorem dX3_valueOf_1 : decode cX3_valueOf 1 = .ok (.invokestatic 103, 3) := by decide +kernel
theorem dX3_valueOf_4 : decode cX3_valueOf 4 = .ok (.ifCond .eq 15, 3) := by decide +kernel
theorem dX3_valueOf_7 : decode cX3_valueOf 7 = .ok (.aload_n 0, 1) := by decide +kernel
theorem dX3_valueOf_8 : decode cX3_valueOf 8 = .ok (.getfield 11, 3) := by decide +kernel
theorem dX3_valueOf_11 : decode cX3_valueOf 11 = .ok (.iload_n 1, 1) := by decide +kernel
theorem dX3_valueOf_12 : decode cX3_valueOf 12 = .ok (.aaload, 1) := by decide +kernel
theorem dX3_valueOf_13 : decode cX3_valueOf 13 = .ok (.getfield 124, 3) := by decide +kernel
theorem dX3_valueOf_16 : decode cX3_valueOf 16 = .ok (.goto 4, 3) := by decide +kernel
theorem dX3_valueOf_19 : decode cX3_valueOf 19 = .ok (.iconst (-1), 1) := by decide +kernel
theorem dX3_valueOf_20 : decode cX3_valueOf 20 = .ok (.ireturn, 1) := by decide +kernel
theorem dX3_nodeOfBucket_0 : decode cX3_nodeOfBucket 0 = .ok (.iload_n 1, 1) := by decide +kernel
theorem dX3_nodeOfBucket_1 : decode cX3_nodeOfBucket 1 = .ok (.invokestatic 263, 3) := by decide +kernel
theorem dX3_nodeOfBucket_4 : decode cX3_nodeOfBucket 4 = .ok (.ifCond .eq 12, 3) := by decide +kernel
theorem dX3_nodeOfBucket_7 : decode cX3_nodeOfBucket 7 = .ok (.aload_n 0, 1) := by decide +kernel
theorem dX3_nodeOfBucket_8 : decode cX3_nodeOfBucket 8 = .ok (.getfield 21, 3) := by decide +kernel
theorem dX3_nodeOfBucket_11 : decode cX3_nodeOfBucket 11 = .ok (.iload_n 1, 1) := by decide +kernel
theorem dX3_nodeOfBucket_12 : decode cX3_nodeOfBucket 12 = .ok (.iaload, 1) := by decide +kernel
theorem dX3_nodeOfBucket_13 : decode cX3_nodeOfBucket 13 = .ok (.goto 4, 3) := by decide +kernel
theorem dX3_nodeOfBucket_16 : decode cX3_nodeOfBucket 16 = .ok (.iconst (-1), 1) := by decide +kernel
theorem dX3_nodeOfBucket_17 : decode cX3_nodeOfBucket 17 = .ok (.ireturn, 1) := by decide +kernel
theorem dX3_isProcess_0 : decode cX3_isProcess 0 = .ok (.iload_n 0, 1) := by decide +kernel
theorem dX3_isProcess_1 : decode cX3_isProcess 1 = .ok (.ifCond .lt 12, 3) := by decide +kernel
theorem dX3_isProcess_4 : decode cX3_isProcess 4 = .ok (.iload_n 0, 1) := by decide +kernel
theorem dX3_isProcess_5 : decode cX3_isProcess 5 = .ok (.iconst 4, 1) := by decide +kernel
theorem dX3_isProcess_6 : decode cX3_isProcess 6 = .ok (.if_icmp .ge 7, 3) := by decide +kernel
theorem dX3_isProcess_9 : decode cX3_isProcess 9 = .ok (.iconst 1, 1) := by decide +kernel
theorem dX3_isProcess_10 : decode cX3_isProcess 10 = .ok (.goto 4, 3) := by decide +kernel
theorem dX3_isProcess_13 : decode cX3_isProcess 13 = .ok (.iconst 0, 1) := by decide +kernel
theorem dX3_isProcess_14 : decode cX3_isProcess 14 = .ok (.ireturn, 1) := by decide +kernel
theorem dX3_isNode_0 : decode cX3_isNode 0 = .ok (.iload_n 0, 1) := by decide +kernel
theorem dX3_isNode_1 : decode cX3_isNode 1 = .ok (.ifCond .lt 13, 3) := by decide +kernel
theorem dX3_isNode_4 : decode cX3_isNode 4 = .ok (.iload_n 0, 1) := by decide +kernel
theorem dX3_isNode_5 : decode cX3_isNode 5 = .ok (.bipush 64, 2) := by decide +kernel
theorem dX3_isNode_7 : decode cX3_isNode 7 = .ok (.if_icmp .ge 7, 3) := by decide +kernel
theorem dX3_isNode_10 : decode cX3_isNode 10 = .ok (.iconst 1, 1) := by decide +kernel
theorem dX3_isNode_11 : decode cX3_isNode 11 = .ok (.goto 4, 3) := by decide +kernel
theorem dX3_isNode_14 : decode cX3_isNode 14 = .ok (.iconst 0, 1) := by decide +kernel
theorem dX3_isNode_15 : decode cX3_isNode 15 = .ok (.ireturn, 1) := by decide +kernel
theorem dX3_isBucket_0 : decode cX3_isBucket 0 = .ok (.iload_n 0, 1) := by decide +kernel
theorem dX3_isBucket_1 : decode cX3_isBucket 1 = .ok (.ifCond .lt 13, 3) := by decide +kernel
theorem dX3_isBucket_4 : decode cX3_isBucket 4 = .ok (.iload_n 0, 1) := by decide +kernel
theorem dX3_isBucket_5 : decode cX3_isBucket 5 = .ok (.bipush 16, 2) := by decide +kernel
theorem dX3_isBucket_7 : decode cX3_isBucket 7 = .ok (.if_icmp .ge 7, 3) := by decide +kernel
theorem dX3_isBucket_10 : decode cX3_isBucket 10 = .ok (.iconst 1, 1) := by decide +kernel
theorem dX3_isBucket_11 : decode cX3_isBucket 11 = .ok (.goto 4, 3) := by decide +kernel
theorem dX3_isBucket_14 : decode cX3_isBucket 14 = .ok (.iconst 0, 1) := by decide +kernel
theorem dX3_isBucket_15 : decode cX3_isBucket 15 = .ok (.ireturn, 1) := by decide +kernel
theorem dX3_wantedOrder_0 : decode cX3_wantedOrder 0 = .ok (.aload_n 0, 1) := by decide +kernel
theorem dX3_wantedOrder_1 : decode cX3_wantedOrder 1 = .ok (.getfield 86, 3) := by decide +kernel
theorem dX3_wantedOrder_4 : decode cX3_wantedOrder 4 = .ok (.invokevirtual 222, 3) := by decide +kernel
theorem dX3_wantedOrder_7 : decode cX3_wantedOrder 7 = .ok (.ifCond .eq 13, 3) := by decide +kernel
theorem dX3_wantedOrder_10 : decode cX3_wantedOrder 10 = .ok (.aload_n 0, 1) := by decide +kernel
theorem dX3_wantedOrder_11 : decode cX3_wantedOrder 11 = .ok (.getfield 180, 3) := by decide +kernel
theorem dX3_wantedOrder_14 : decode cX3_wantedOrder 14 = .ok (.invokestatic 287, 3) := by decide +kernel
theorem dX3_wantedOrder_17 : decode cX3_wantedOrder 17 = .ok (.goto 13, 3) := by decide +kernel
theorem dX3_wantedOrder_20 : decode cX3_wantedOrder 20 = .ok (.aload_n 0, 1) := by decide +kernel
theorem dX3_wantedOrder_21 : decode cX3_wantedOrder 21 = .ok (.getfield 86, 3) := by decide +kernel
theorem dX3_wantedOrder_24 : decode cX3_wantedOrder 24 = .ok (.invokevirtual 259, 3) := by decide +kernel
theorem dX3_wantedOrder_27 : decode cX3_wantedOrder 27 = .ok (.invokestatic 37, 3) := by decide +kernel
theorem dX3_wantedOrder_30 : decode cX3_wantedOrder 30 = .ok (.ireturn, 1) := by decide +kernel
theorem dX3_orderOfKey_0 : decode cX3_orderOfKey 0 = .ok (.iconst 2, 1) := by decide +kernel
theorem dX3_orderOfKey_1 : decode cX3_orderOfKey 1 = .ok (.iload_n 0, 1) := by decide +kernel
theorem dX3_orderOfKey_2 : decode cX3_orderOfKey 2 = .ok (.invokestatic 181, 3) := by decide +kernel
theorem dX3_orderOfKey_5 : decode cX3_orderOfKey 5 = .ok (.invokestatic 290, 3) := by decide +kernel
theorem dX3_orderOfKey_8 : decode cX3_orderOfKey 8 = .ok (.imul, 1) := by decide +kernel
theorem dX3_orderOfKey_9 : decode cX3_orderOfKey 9 = .ok (.iconst 1, 1) := by decide +kernel
theorem dX3_orderOfKey_10 : decode cX3_orderOfKey 10 = .ok (.iadd, 1) := by decide +kernel
theorem dX3_orderOfKey_11 : decode cX3_orderOfKey 11 = .ok (.ireturn, 1) := by decide +kernel
theorem dX3_orderOfBucket_0 : decode cX3_orderOfBucket 0 = .ok (.iconst 2, 1) := by decide +kernel
theorem dX3_orderOfBucket_1 : decode cX3_orderOfBucket 1 = .ok (.iload_n 0, 1) := by decide +kernel
theorem dX3_orderOfBucket_2 : decode cX3_orderOfBucket 2 = .ok (.invokestatic 290, 3) := by decide +kernel
theorem dX3_orderOfBucket_5 : decode cX3_orderOfBucket 5 = .ok (.imul, 1) := by decide +kernel
theorem dX3_orderOfBucket_6 : decode cX3_orderOfBucket 6 = .ok (.ireturn, 1) := by decide +kernel
theorem dX3_hashOf_0 : decode cX3_hashOf 0 = .ok (.iload_n 0, 1) := by decide +kernel
theorem dX3_hashOf_1 : decode cX3_hashOf 1 = .ok (.sipush 167, 3) := by decide +kernel
theorem dX3_hashOf_4 : decode cX3_hashOf 4 = .ok (.imul, 1) := by decide +kernel
theorem dX3_hashOf_5 : decode cX3_hashOf 5 = .ok (.sipush 256, 3) := by decide +kernel
theorem dX3_hashOf_8 : decode cX3_hashOf 8 = .ok (.irem, 1) := by decide +kernel
theorem dX3_hashOf_9 : decode cX3_hashOf 9 = .ok (.ireturn, 1) := by decide +kernel
theorem dX3_turned_0 : decode cX3_turned 0 = .ok (.iconst 0, 1) := by decide +kernel
theorem dX3_turned_1 : decode cX3_turned 1 = .ok (.istore_n 1, 1) := by decide +kernel
theorem dX3_turned_2 : decode cX3_turned 2 = .ok (.iconst 0, 1) := by decide +kernel
theorem dX3_turned_3 : decode cX3_turned 3 = .ok (.istore_n 2, 1) := by decide +kernel
theorem dX3_turned_4 : decode cX3_turned 4 = .ok (.iload_n 2, 1) := by decide +kernel
theorem dX3_turned_5 : decode cX3_turned 5 = .ok (.bipush 8, 2) := by decide +kernel
theorem dX3_turned_7 : decode cX3_turned 7 = .ok (.if_icmp .ge 19, 3) := by decide +kernel
theorem dX3_turned_10 : decode cX3_turned 10 = .ok (.iconst 2, 1) := by decide +kernel
theorem dX3_turned_11 : decode cX3_turned 11 = .ok (.iload_n 1, 1) := by decide +kernel
theorem dX3_turned_12 : decode cX3_turned 12 = .ok (.imul, 1) := by decide +kernel
theorem dX3_turned_13 : decode cX3_turned 13 = .ok (.iload_n 0, 1) := by decide +kernel
theorem dX3_turned_14 : decode cX3_turned 14 = .ok (.iload_n 2, 1) := by decide +kernel
theorem dX3_turned_15 : decode cX3_turned 15 = .ok (.ishr, 1) := by decide +kernel
theorem dX3_turned_16 : decode cX3_turned 16 = .ok (.iconst 1, 1) := by decide +kernel
theorem dX3_turned_17 : decode cX3_turned 17 = .ok (.iand, 1) := by decide +kernel
theorem dX3_turned_18 : decode cX3_turned 18 = .ok (.iadd, 1) := by decide +kernel
theorem dX3_turned_19 : decode cX3_turned 19 = .ok (.istore_n 1, 1) := by decide +kernel
theorem dX3_turned_20 : decode cX3_turned 20 = .ok (.iinc 2 1, 3) := by decide +kernel
theorem dX3_turned_23 : decode cX3_turned 23 = .ok (.goto (-19), 3) := by decide +kernel
theorem dX3_turned_26 : decode cX3_turned 26 = .ok (.iload_n 1, 1) := by decide +kernel
theorem dX3_turned_27 : decode cX3_turned 27 = .ok (.ireturn, 1) := by decide +kernel
theorem dX3_parentOf_0 : decode cX3_parentOf 0 = .ok (.bipush 8, 2) := by decide +kernel
theorem dX3_parentOf_2 : decode cX3_parentOf 2 = .ok (.istore_n 1, 1) := by decide +kernel
theorem dX3_parentOf_3 : decode cX3_parentOf 3 = .ok (.iload_n 1, 1) := by decide +kernel
theorem dX3_parentOf_4 : decode cX3_parentOf 4 = .ok (.ifCond .le 20, 3) := by decide +kernel
theorem dX3_parentOf_7 : decode cX3_parentOf 7 = .ok (.iload_n 0, 1) := by decide +kernel
theorem dX3_parentOf_8 : decode cX3_parentOf 8 = .ok (.iload_n 1, 1) := by decide +kernel
theorem dX3_parentOf_9 : decode cX3_parentOf 9 = .ok (.iand, 1) := by decide +kernel
theorem dX3_parentOf_10 : decode cX3_parentOf 10 = .ok (.ifCond .eq 7, 3) := by decide +kernel
theorem dX3_parentOf_13 : decode cX3_parentOf 13 = .ok (.iload_n 0, 1) := by decide +kernel
theorem dX3_parentOf_14 : decode cX3_parentOf 14 = .ok (.iload_n 1, 1) := by decide +kernel
theorem dX3_parentOf_15 : decode cX3_parentOf 15 = .ok (.isub, 1) := by decide +kernel
theorem dX3_parentOf_16 : decode cX3_parentOf 16 = .ok (.ireturn, 1) := by decide +kernel
theorem dX3_parentOf_17 : decode cX3_parentOf 17 = .ok (.iload_n 1, 1) := by decide +kernel
theorem dX3_parentOf_18 : decode cX3_parentOf 18 = .ok (.iconst 2, 1) := by decide +kernel
theorem dX3_parentOf_19 : decode cX3_parentOf 19 = .ok (.idiv, 1) := by decide +kernel
theorem dX3_parentOf_20 : decode cX3_parentOf 20 = .ok (.istore_n 1, 1) := by decide +kernel
theorem dX3_parentOf_21 : decode cX3_parentOf 21 = .ok (.goto (-18), 3) := by decide +kernel
theorem dX3_parentOf_24 : decode cX3_parentOf 24 = .ok (.iconst 0, 1) := by decide +kernel
theorem dX3_parentOf_25 : decode cX3_parentOf 25 = .ok (.ireturn, 1) := by decide +kernel
