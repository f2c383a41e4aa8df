theorem d_Ce_init_0 : decode b_Ce_init 0 = .ok (.aload_n 0, 1) := by decide +kernel
theorem d_Ce_init_1 : decode b_Ce_init 1 = .ok (.invokespecial 3, 3) := by decide +kernel
theorem d_Ce_init_4 : decode b_Ce_init 4 = .ok (.aload_n 0, 1) := by decide +kernel
theorem d_Ce_init_5 : decode b_Ce_init 5 = .ok (.iconst 4, 1) := by decide +kernel
theorem d_Ce_init_6 : decode b_Ce_init 6 = .ok (.newarray .int, 2) := by decide +kernel
theorem d_Ce_init_8 : decode b_Ce_init 8 = .ok (.putfield 9, 3) := by decide +kernel
theorem d_Ce_init_11 : decode b_Ce_init 11 = .ok (.return_, 1) := by decide +kernel
theorem d_Ce_total_0 : decode b_Ce_total 0 = .ok (.iconst 0, 1) := by decide +kernel
theorem d_Ce_total_1 : decode b_Ce_total 1 = .ok (.istore_n 1, 1) := by decide +kernel
theorem d_Ce_total_2 : decode b_Ce_total 2 = .ok (.iconst 0, 1) := by decide +kernel
theorem d_Ce_total_3 : decode b_Ce_total 3 = .ok (.istore_n 2, 1) := by decide +kernel
theorem d_Ce_total_4 : decode b_Ce_total 4 = .ok (.iload_n 2, 1) := by decide +kernel
theorem d_Ce_total_5 : decode b_Ce_total 5 = .ok (.iconst 4, 1) := by decide +kernel
theorem d_Ce_total_6 : decode b_Ce_total 6 = .ok (.if_icmp .ge 18, 3) := by decide +kernel
theorem d_Ce_total_9 : decode b_Ce_total 9 = .ok (.iload_n 1, 1) := by decide +kernel
theorem d_Ce_total_10 : decode b_Ce_total 10 = .ok (.aload_n 0, 1) := by decide +kernel
theorem d_Ce_total_11 : decode b_Ce_total 11 = .ok (.getfield 9, 3) := by decide +kernel
theorem d_Ce_total_14 : decode b_Ce_total 14 = .ok (.iload_n 2, 1) := by decide +kernel
theorem d_Ce_total_15 : decode b_Ce_total 15 = .ok (.iaload, 1) := by decide +kernel
theorem d_Ce_total_16 : decode b_Ce_total 16 = .ok (.iadd, 1) := by decide +kernel
theorem d_Ce_total_17 : decode b_Ce_total 17 = .ok (.istore_n 1, 1) := by decide +kernel
theorem d_Ce_total_18 : decode b_Ce_total 18 = .ok (.iinc 2 1, 3) := by decide +kernel
theorem d_Ce_total_21 : decode b_Ce_total 21 = .ok (.goto (-17), 3) := by decide +kernel
theorem d_Ce_total_24 : decode b_Ce_total 24 = .ok (.iload_n 1, 1) := by decide +kernel
theorem d_Ce_total_25 : decode b_Ce_total 25 = .ok (.ireturn, 1) := by decide +kernel
theorem d_Ce_giveTo_0 : decode b_Ce_giveTo 0 = .ok (.aload_n 0, 1) := by decide +kernel
theorem d_Ce_giveTo_1 : decode b_Ce_giveTo 1 = .ok (.invokevirtual 15, 3) := by decide +kernel
theorem d_Ce_giveTo_4 : decode b_Ce_giveTo 4 = .ok (.istore_n 3, 1) := by decide +kernel
theorem d_Ce_giveTo_5 : decode b_Ce_giveTo 5 = .ok (.iload_n 3, 1) := by decide +kernel
theorem d_Ce_giveTo_6 : decode b_Ce_giveTo 6 = .ok (.ifCond .le 9, 3) := by decide +kernel
theorem d_Ce_giveTo_9 : decode b_Ce_giveTo 9 = .ok (.aload_n 1, 1) := by decide +kernel
theorem d_Ce_giveTo_10 : decode b_Ce_giveTo 10 = .ok (.arraylength, 1) := by decide +kernel
theorem d_Ce_giveTo_11 : decode b_Ce_giveTo 11 = .ok (.iconst 4, 1) := by decide +kernel
theorem d_Ce_giveTo_12 : decode b_Ce_giveTo 12 = .ok (.if_icmp .ge 5, 3) := by decide +kernel
theorem d_Ce_giveTo_15 : decode b_Ce_giveTo 15 = .ok (.iconst 0, 1) := by decide +kernel
theorem d_Ce_giveTo_16 : decode b_Ce_giveTo 16 = .ok (.ireturn, 1) := by decide +kernel
theorem d_Ce_giveTo_17 : decode b_Ce_giveTo 17 = .ok (.iload_n 2, 1) := by decide +kernel
theorem d_Ce_giveTo_18 : decode b_Ce_giveTo 18 = .ok (.iload_n 3, 1) := by decide +kernel
theorem d_Ce_giveTo_19 : decode b_Ce_giveTo 19 = .ok (.invokestatic 19, 3) := by decide +kernel
theorem d_Ce_giveTo_22 : decode b_Ce_giveTo 22 = .ok (.istore 4, 2) := by decide +kernel
theorem d_Ce_giveTo_24 : decode b_Ce_giveTo 24 = .ok (.iload 4, 2) := by decide +kernel
theorem d_Ce_giveTo_26 : decode b_Ce_giveTo 26 = .ok (.istore 5, 2) := by decide +kernel
theorem d_Ce_giveTo_28 : decode b_Ce_giveTo 28 = .ok (.iconst 0, 1) := by decide +kernel
theorem d_Ce_giveTo_29 : decode b_Ce_giveTo 29 = .ok (.istore 6, 2) := by decide +kernel
theorem d_Ce_giveTo_31 : decode b_Ce_giveTo 31 = .ok (.iload 6, 2) := by decide +kernel
theorem d_Ce_giveTo_33 : decode b_Ce_giveTo 33 = .ok (.iconst 4, 1) := by decide +kernel
theorem d_Ce_giveTo_34 : decode b_Ce_giveTo 34 = .ok (.if_icmp .ge 46, 3) := by decide +kernel
theorem d_Ce_giveTo_37 : decode b_Ce_giveTo 37 = .ok (.aload_n 0, 1) := by decide +kernel
theorem d_Ce_giveTo_38 : decode b_Ce_giveTo 38 = .ok (.getfield 9, 3) := by decide +kernel
theorem d_Ce_giveTo_41 : decode b_Ce_giveTo 41 = .ok (.iload 6, 2) := by decide +kernel
theorem d_Ce_giveTo_43 : decode b_Ce_giveTo 43 = .ok (.iaload, 1) := by decide +kernel
theorem d_Ce_giveTo_44 : decode b_Ce_giveTo 44 = .ok (.i2l, 1) := by decide +kernel
theorem d_Ce_giveTo_45 : decode b_Ce_giveTo 45 = .ok (.iload 4, 2) := by decide +kernel
theorem d_Ce_giveTo_47 : decode b_Ce_giveTo 47 = .ok (.i2l, 1) := by decide +kernel
theorem d_Ce_giveTo_48 : decode b_Ce_giveTo 48 = .ok (.lmul, 1) := by decide +kernel
theorem d_Ce_giveTo_49 : decode b_Ce_giveTo 49 = .ok (.iload_n 3, 1) := by decide +kernel
theorem d_Ce_giveTo_50 : decode b_Ce_giveTo 50 = .ok (.i2l, 1) := by decide +kernel
theorem d_Ce_giveTo_51 : decode b_Ce_giveTo 51 = .ok (.ldiv, 1) := by decide +kernel
theorem d_Ce_giveTo_52 : decode b_Ce_giveTo 52 = .ok (.l2i, 1) := by decide +kernel
theorem d_Ce_giveTo_53 : decode b_Ce_giveTo 53 = .ok (.istore 7, 2) := by decide +kernel
theorem d_Ce_giveTo_55 : decode b_Ce_giveTo 55 = .ok (.aload_n 0, 1) := by decide +kernel
theorem d_Ce_giveTo_56 : decode b_Ce_giveTo 56 = .ok (.aload_n 1, 1) := by decide +kernel
theorem d_Ce_giveTo_57 : decode b_Ce_giveTo 57 = .ok (.iload 6, 2) := by decide +kernel
theorem d_Ce_giveTo_59 : decode b_Ce_giveTo 59 = .ok (.aaload, 1) := by decide +kernel
theorem d_Ce_giveTo_60 : decode b_Ce_giveTo 60 = .ok (.iload 6, 2) := by decide +kernel
theorem d_Ce_giveTo_62 : decode b_Ce_giveTo 62 = .ok (.iload 7, 2) := by decide +kernel
theorem d_Ce_giveTo_64 : decode b_Ce_giveTo 64 = .ok (.invokevirtual 25, 3) := by decide +kernel
theorem d_Ce_giveTo_67 : decode b_Ce_giveTo 67 = .ok (.iload 5, 2) := by decide +kernel
theorem d_Ce_giveTo_69 : decode b_Ce_giveTo 69 = .ok (.iload 7, 2) := by decide +kernel
theorem d_Ce_giveTo_71 : decode b_Ce_giveTo 71 = .ok (.isub, 1) := by decide +kernel
theorem d_Ce_giveTo_72 : decode b_Ce_giveTo 72 = .ok (.istore 5, 2) := by decide +kernel
theorem d_Ce_giveTo_74 : decode b_Ce_giveTo 74 = .ok (.iinc 6 1, 3) := by decide +kernel
theorem d_Ce_giveTo_77 : decode b_Ce_giveTo 77 = .ok (.goto (-46), 3) := by decide +kernel
theorem d_Ce_giveTo_80 : decode b_Ce_giveTo 80 = .ok (.iconst 0, 1) := by decide +kernel
theorem d_Ce_giveTo_81 : decode b_Ce_giveTo 81 = .ok (.istore 6, 2) := by decide +kernel
theorem d_Ce_giveTo_83 : decode b_Ce_giveTo 83 = .ok (.iload 6, 2) := by decide +kernel
theorem d_Ce_giveTo_85 : decode b_Ce_giveTo 85 = .ok (.iconst 4, 1) := by decide +kernel
theorem d_Ce_giveTo_86 : decode b_Ce_giveTo 86 = .ok (.if_icmp .ge 38, 3) := by decide +kernel
theorem d_Ce_giveTo_89 : decode b_Ce_giveTo 89 = .ok (.iload 5, 2) := by decide +kernel
theorem d_Ce_giveTo_91 : decode b_Ce_giveTo 91 = .ok (.ifCond .le 33, 3) := by decide +kernel
theorem d_Ce_giveTo_94 : decode b_Ce_giveTo 94 = .ok (.aload_n 0, 1) := by decide +kernel
theorem d_Ce_giveTo_95 : decode b_Ce_giveTo 95 = .ok (.getfield 9, 3) := by decide +kernel
theorem d_Ce_giveTo_98 : decode b_Ce_giveTo 98 = .ok (.iload 6, 2) := by decide +kernel
theorem d_Ce_giveTo_100 : decode b_Ce_giveTo 100 = .ok (.iaload, 1) := by decide +kernel
theorem d_Ce_giveTo_101 : decode b_Ce_giveTo 101 = .ok (.ifCond .le 17, 3) := by decide +kernel
theorem d_Ce_giveTo_104 : decode b_Ce_giveTo 104 = .ok (.aload_n 0, 1) := by decide +kernel
theorem d_Ce_giveTo_105 : decode b_Ce_giveTo 105 = .ok (.aload_n 1, 1) := by decide +kernel
theorem d_Ce_giveTo_106 : decode b_Ce_giveTo 106 = .ok (.iload 6, 2) := by decide +kernel
theorem d_Ce_giveTo_108 : decode b_Ce_giveTo 108 = .ok (.aaload, 1) := by decide +kernel
theorem d_Ce_giveTo_109 : decode b_Ce_giveTo 109 = .ok (.iload 6, 2) := by decide +kernel
theorem d_Ce_giveTo_111 : decode b_Ce_giveTo 111 = .ok (.iconst 1, 1) := by decide +kernel
theorem d_Ce_giveTo_112 : decode b_Ce_giveTo 112 = .ok (.invokevirtual 25, 3) := by decide +kernel
theorem d_Ce_giveTo_115 : decode b_Ce_giveTo 115 = .ok (.iinc 5 (-1), 3) := by decide +kernel
theorem d_Ce_giveTo_118 : decode b_Ce_giveTo 118 = .ok (.iinc 6 1, 3) := by decide +kernel
theorem d_Ce_giveTo_121 : decode b_Ce_giveTo 121 = .ok (.goto (-38), 3) := by decide +kernel
theorem d_Ce_giveTo_124 : decode b_Ce_giveTo 124 = .ok (.iload 4, 2) := by decide +kernel
theorem d_Ce_giveTo_126 : decode b_Ce_giveTo 126 = .ok (.ireturn, 1) := by decide +kernel
theorem d_Ce_hand_0 : decode b_Ce_hand 0 = .ok (.aload_n 0, 1) := by decide +kernel
theorem d_Ce_hand_1 : decode b_Ce_hand 1 = .ok (.getfield 9, 3) := by decide +kernel
theorem d_Ce_hand_4 : decode b_Ce_hand 4 = .ok (.iload_n 2, 1) := by decide +kernel
theorem d_Ce_hand_5 : decode b_Ce_hand 5 = .ok (.dup2, 1) := by decide +kernel
theorem d_Ce_hand_6 : decode b_Ce_hand 6 = .ok (.iaload, 1) := by decide +kernel
theorem d_Ce_hand_7 : decode b_Ce_hand 7 = .ok (.iload_n 3, 1) := by decide +kernel
theorem d_Ce_hand_8 : decode b_Ce_hand 8 = .ok (.isub, 1) := by decide +kernel
theorem d_Ce_hand_9 : decode b_Ce_hand 9 = .ok (.iastore, 1) := by decide +kernel
theorem d_Ce_hand_10 : decode b_Ce_hand 10 = .ok (.aload_n 1, 1) := by decide +kernel
theorem d_Ce_hand_11 : decode b_Ce_hand 11 = .ok (.dup, 1) := by decide +kernel
theorem d_Ce_hand_12 : decode b_Ce_hand 12 = .ok (.getfield 29, 3) := by decide +kernel
theorem d_Ce_hand_15 : decode b_Ce_hand 15 = .ok (.iload_n 3, 1) := by decide +kernel
theorem d_Ce_hand_16 : decode b_Ce_hand 16 = .ok (.i2l, 1) := by decide +kernel
theorem d_Ce_hand_17 : decode b_Ce_hand 17 = .ok (.ladd, 1) := by decide +kernel
theorem d_Ce_hand_18 : decode b_Ce_hand 18 = .ok (.putfield 29, 3) := by decide +kernel
theorem d_Ce_hand_21 : decode b_Ce_hand 21 = .ok (.return_, 1) := by decide +kernel
theorem d_Ct_init_0 : decode b_Ct_init 0 = .ok (.aload_n 0, 1) := by decide +kernel
theorem d_Ct_init_1 : decode b_Ct_init 1 = .ok (.invokespecial 3, 3) := by decide +kernel
theorem d_Ct_init_4 : decode b_Ct_init 4 = .ok (.aload_n 0, 1) := by decide +kernel
theorem d_Ct_init_5 : decode b_Ct_init 5 = .ok (.iconst 0, 1) := by decide +kernel
theorem d_Ct_init_6 : decode b_Ct_init 6 = .ok (.putfield 9, 3) := by decide +kernel
theorem d_Ct_init_9 : decode b_Ct_init 9 = .ok (.aload_n 0, 1) := by decide +kernel
theorem d_Ct_init_10 : decode b_Ct_init 10 = .ok (.iconst 0, 1) := by decide +kernel
theorem d_Ct_init_11 : decode b_Ct_init 11 = .ok (.putfield 15, 3) := by decide +kernel
theorem d_Ct_init_14 : decode b_Ct_init 14 = .ok (.aload_n 0, 1) := by decide +kernel
theorem d_Ct_init_15 : decode b_Ct_init 15 = .ok (.iconst 0, 1) := by decide +kernel
theorem d_Ct_init_16 : decode b_Ct_init 16 = .ok (.putfield 19, 3) := by decide +kernel
theorem d_Ct_init_19 : decode b_Ct_init 19 = .ok (.aload_n 0, 1) := by decide +kernel
theorem d_Ct_init_20 : decode b_Ct_init 20 = .ok (.iconst 0, 1) := by decide +kernel
theorem d_Ct_init_21 : decode b_Ct_init 21 = .ok (.putfield 22, 3) := by decide +kernel
theorem d_Ct_init_24 : decode b_Ct_init 24 = .ok (.aload_n 0, 1) := by decide +kernel
theorem d_Ct_init_25 : decode b_Ct_init 25 = .ok (.iconst 0, 1) := by decide +kernel
theorem d_Ct_init_26 : decode b_Ct_init 26 = .ok (.putfield 25, 3) := by decide +kernel
theorem d_Ct_init_29 : decode b_Ct_init 29 = .ok (.aload_n 0, 1) := by decide +kernel
theorem d_Ct_init_30 : decode b_Ct_init 30 = .ok (.lconst 0, 1) := by decide +kernel
theorem d_Ct_init_31 : decode b_Ct_init 31 = .ok (.putfield 28, 3) := by decide +kernel
theorem d_Ct_init_34 : decode b_Ct_init 34 = .ok (.return_, 1) := by decide +kernel
theorem d_Ct_tell_0 : decode b_Ct_tell 0 = .ok (.aload_n 0, 1) := by decide +kernel
theorem d_Ct_tell_1 : decode b_Ct_tell 1 = .ok (.iconst 1, 1) := by decide +kernel
theorem d_Ct_tell_2 : decode b_Ct_tell 2 = .ok (.putfield 9, 3) := by decide +kernel
theorem d_Ct_tell_5 : decode b_Ct_tell 5 = .ok (.aload_n 0, 1) := by decide +kernel
theorem d_Ct_tell_6 : decode b_Ct_tell 6 = .ok (.iload_n 1, 1) := by decide +kernel
theorem d_Ct_tell_7 : decode b_Ct_tell 7 = .ok (.putfield 19, 3) := by decide +kernel
theorem d_Ct_tell_10 : decode b_Ct_tell 10 = .ok (.aload_n 0, 1) := by decide +kernel
theorem d_Ct_tell_11 : decode b_Ct_tell 11 = .ok (.iload_n 2, 1) := by decide +kernel
theorem d_Ct_tell_12 : decode b_Ct_tell 12 = .ok (.putfield 22, 3) := by decide +kernel
theorem d_Ct_tell_15 : decode b_Ct_tell 15 = .ok (.aload_n 0, 1) := by decide +kernel
theorem d_Ct_tell_16 : decode b_Ct_tell 16 = .ok (.iload_n 3, 1) := by decide +kernel
theorem d_Ct_tell_17 : decode b_Ct_tell 17 = .ok (.putfield 25, 3) := by decide +kernel
theorem d_Ct_tell_20 : decode b_Ct_tell 20 = .ok (.aload_n 0, 1) := by decide +kernel
theorem d_Ct_tell_21 : decode b_Ct_tell 21 = .ok (.lconst 0, 1) := by decide +kernel
theorem d_Ct_tell_22 : decode b_Ct_tell 22 = .ok (.putfield 28, 3) := by decide +kernel
theorem d_Ct_tell_25 : decode b_Ct_tell 25 = .ok (.aload_n 0, 1) := by decide +kernel
theorem d_Ct_tell_26 : decode b_Ct_tell 26 = .ok (.iconst 0, 1) := by decide +kernel
theorem d_Ct_tell_27 : decode b_Ct_tell 27 = .ok (.putfield 15, 3) := by decide +kernel
theorem d_Ct_tell_30 : decode b_Ct_tell 30 = .ok (.return_, 1) := by decide +kernel
theorem d_Ct_look_0 : decode b_Ct_look 0 = .ok (.aload_n 0, 1) := by decide +kernel
theorem d_Ct_look_1 : decode b_Ct_look 1 = .ok (.getfield 19, 3) := by decide +kernel
theorem d_Ct_look_4 : decode b_Ct_look 4 = .ok (.i2l, 1) := by decide +kernel
theorem d_Ct_look_5 : decode b_Ct_look 5 = .ok (.lload_n 1, 1) := by decide +kernel
theorem d_Ct_look_6 : decode b_Ct_look 6 = .ok (.lsub, 1) := by decide +kernel
theorem d_Ct_look_7 : decode b_Ct_look 7 = .ok (.lstore_n 3, 1) := by decide +kernel
theorem d_Ct_look_8 : decode b_Ct_look 8 = .ok (.aload_n 0, 1) := by decide +kernel
theorem d_Ct_look_9 : decode b_Ct_look 9 = .ok (.aload_n 0, 1) := by decide +kernel
theorem d_Ct_look_10 : decode b_Ct_look 10 = .ok (.getfield 28, 3) := by decide +kernel
theorem d_Ct_look_13 : decode b_Ct_look 13 = .ok (.lload_n 3, 1) := by decide +kernel
theorem d_Ct_look_14 : decode b_Ct_look 14 = .ok (.ladd, 1) := by decide +kernel
theorem d_Ct_look_15 : decode b_Ct_look 15 = .ok (.ldc2_w 32, 3) := by decide +kernel
theorem d_Ct_look_18 : decode b_Ct_look 18 = .ok (.ldc2_w 34, 3) := by decide +kernel
theorem d_Ct_look_21 : decode b_Ct_look 21 = .ok (.invokestatic 36, 3) := by decide +kernel
theorem d_Ct_look_24 : decode b_Ct_look 24 = .ok (.putfield 28, 3) := by decide +kernel
theorem d_Ct_look_27 : decode b_Ct_look 27 = .ok (.aload_n 0, 1) := by decide +kernel
theorem d_Ct_look_28 : decode b_Ct_look 28 = .ok (.aload_n 0, 1) := by decide +kernel
theorem d_Ct_look_29 : decode b_Ct_look 29 = .ok (.getfield 22, 3) := by decide +kernel
theorem d_Ct_look_32 : decode b_Ct_look 32 = .ok (.i2l, 1) := by decide +kernel
theorem d_Ct_look_33 : decode b_Ct_look 33 = .ok (.lload_n 3, 1) := by decide +kernel
theorem d_Ct_look_34 : decode b_Ct_look 34 = .ok (.lmul, 1) := by decide +kernel
theorem d_Ct_look_35 : decode b_Ct_look 35 = .ok (.aload_n 0, 1) := by decide +kernel
theorem d_Ct_look_36 : decode b_Ct_look 36 = .ok (.getfield 25, 3) := by decide +kernel
theorem d_Ct_look_39 : decode b_Ct_look 39 = .ok (.i2l, 1) := by decide +kernel
theorem d_Ct_look_40 : decode b_Ct_look 40 = .ok (.aload_n 0, 1) := by decide +kernel
theorem d_Ct_look_41 : decode b_Ct_look 41 = .ok (.getfield 28, 3) := by decide +kernel
theorem d_Ct_look_44 : decode b_Ct_look 44 = .ok (.lmul, 1) := by decide +kernel
theorem d_Ct_look_45 : decode b_Ct_look 45 = .ok (.ladd, 1) := by decide +kernel
theorem d_Ct_look_46 : decode b_Ct_look 46 = .ok (.ldc2_w 40, 3) := by decide +kernel
theorem d_Ct_look_49 : decode b_Ct_look 49 = .ok (.invokestatic 42, 3) := by decide +kernel
theorem d_Ct_look_52 : decode b_Ct_look 52 = .ok (.lconst 0, 1) := by decide +kernel
theorem d_Ct_look_53 : decode b_Ct_look 53 = .ok (.ldc2_w 48, 3) := by decide +kernel
theorem d_Ct_look_56 : decode b_Ct_look 56 = .ok (.invokestatic 36, 3) := by decide +kernel
theorem d_Ct_look_59 : decode b_Ct_look 59 = .ok (.l2i, 1) := by decide +kernel
theorem d_Ct_look_60 : decode b_Ct_look 60 = .ok (.putfield 15, 3) := by decide +kernel
theorem d_Ct_look_63 : decode b_Ct_look 63 = .ok (.return_, 1) := by decide +kernel
theorem d_Fu_init_0 : decode b_Fu_init 0 = .ok (.aload_n 0, 1) := by decide +kernel
theorem d_Fu_init_1 : decode b_Fu_init 1 = .ok (.invokespecial 1, 3) := by decide +kernel
theorem d_Fu_init_4 : decode b_Fu_init 4 = .ok (.aload_n 0, 1) := by decide +kernel
theorem d_Fu_init_5 : decode b_Fu_init 5 = .ok (.lconst 0, 1) := by decide +kernel
theorem d_Fu_init_6 : decode b_Fu_init 6 = .ok (.putfield 7, 3) := by decide +kernel
theorem d_Fu_init_9 : decode b_Fu_init 9 = .ok (.aload_n 0, 1) := by decide +kernel
theorem d_Fu_init_10 : decode b_Fu_init 10 = .ok (.sipush 500, 3) := by decide +kernel
theorem d_Fu_init_13 : decode b_Fu_init 13 = .ok (.putfield 13, 3) := by decide +kernel
theorem d_Fu_init_16 : decode b_Fu_init 16 = .ok (.aload_n 0, 1) := by decide +kernel
theorem d_Fu_init_17 : decode b_Fu_init 17 = .ok (.lconst 0, 1) := by decide +kernel
theorem d_Fu_init_18 : decode b_Fu_init 18 = .ok (.putfield 17, 3) := by decide +kernel
theorem d_Fu_init_21 : decode b_Fu_init 21 = .ok (.aload_n 0, 1) := by decide +kernel
theorem d_Fu_init_22 : decode b_Fu_init 22 = .ok (.iconst 0, 1) := by decide +kernel
theorem d_Fu_init_23 : decode b_Fu_init 23 = .ok (.putfield 20, 3) := by decide +kernel
theorem d_Fu_init_26 : decode b_Fu_init 26 = .ok (.aload_n 0, 1) := by decide +kernel
theorem d_Fu_init_27 : decode b_Fu_init 27 = .ok (.iconst 0, 1) := by decide +kernel
theorem d_Fu_init_28 : decode b_Fu_init 28 = .ok (.putfield 24, 3) := by decide +kernel
theorem d_Fu_init_31 : decode b_Fu_init 31 = .ok (.aload_n 0, 1) := by decide +kernel
theorem d_Fu_init_32 : decode b_Fu_init 32 = .ok (.iconst 0, 1) := by decide +kernel
theorem d_Fu_init_33 : decode b_Fu_init 33 = .ok (.putfield 27, 3) := by decide +kernel
theorem d_Fu_init_36 : decode b_Fu_init 36 = .ok (.aload_n 0, 1) := by decide +kernel
theorem d_Fu_init_37 : decode b_Fu_init 37 = .ok (.iconst 0, 1) := by decide +kernel
theorem d_Fu_init_38 : decode b_Fu_init 38 = .ok (.putfield 30, 3) := by decide +kernel
theorem d_Fu_init_41 : decode b_Fu_init 41 = .ok (.aload_n 0, 1) := by decide +kernel
theorem d_Fu_init_42 : decode b_Fu_init 42 = .ok (.lconst 0, 1) := by decide +kernel
theorem d_Fu_init_43 : decode b_Fu_init 43 = .ok (.putfield 33, 3) := by decide +kernel
theorem d_Fu_init_46 : decode b_Fu_init 46 = .ok (.aload_n 0, 1) := by decide +kernel
theorem d_Fu_init_47 : decode b_Fu_init 47 = .ok (.lconst 0, 1) := by decide +kernel
theorem d_Fu_init_48 : decode b_Fu_init 48 = .ok (.putfield 36, 3) := by decide +kernel
theorem d_Fu_init_51 : decode b_Fu_init 51 = .ok (.aload_n 0, 1) := by decide +kernel
theorem d_Fu_init_52 : decode b_Fu_init 52 = .ok (.lconst 0, 1) := by decide +kernel
theorem d_Fu_init_53 : decode b_Fu_init 53 = .ok (.putfield 39, 3) := by decide +kernel
theorem d_Fu_init_56 : decode b_Fu_init 56 = .ok (.aload_n 0, 1) := by decide +kernel
theorem d_Fu_init_57 : decode b_Fu_init 57 = .ok (.lconst 0, 1) := by decide +kernel
theorem d_Fu_init_58 : decode b_Fu_init 58 = .ok (.putfield 42, 3) := by decide +kernel
theorem d_Fu_init_61 : decode b_Fu_init 61 = .ok (.return_, 1) := by decide +kernel
theorem d_Fu_tellBurner_0 : decode b_Fu_tellBurner 0 = .ok (.aload_n 0, 1) := by decide +kernel
theorem d_Fu_tellBurner_1 : decode b_Fu_tellBurner 1 = .ok (.iconst 1, 1) := by decide +kernel
theorem d_Fu_tellBurner_2 : decode b_Fu_tellBurner 2 = .ok (.putfield 20, 3) := by decide +kernel
theorem d_Fu_tellBurner_5 : decode b_Fu_tellBurner 5 = .ok (.aload_n 0, 1) := by decide +kernel
theorem d_Fu_tellBurner_6 : decode b_Fu_tellBurner 6 = .ok (.iload_n 1, 1) := by decide +kernel
theorem d_Fu_tellBurner_7 : decode b_Fu_tellBurner 7 = .ok (.putfield 27, 3) := by decide +kernel
theorem d_Fu_tellBurner_10 : decode b_Fu_tellBurner 10 = .ok (.aload_n 0, 1) := by decide +kernel
theorem d_Fu_tellBurner_11 : decode b_Fu_tellBurner 11 = .ok (.iload_n 2, 1) := by decide +kernel
theorem d_Fu_tellBurner_12 : decode b_Fu_tellBurner 12 = .ok (.putfield 30, 3) := by decide +kernel
theorem d_Fu_tellBurner_15 : decode b_Fu_tellBurner 15 = .ok (.return_, 1) := by decide +kernel
theorem d_Fu_spendOnDrying_0 : decode b_Fu_spendOnDrying 0 = .ok (.aload_n 0, 1) := by decide +kernel
theorem d_Fu_spendOnDrying_1 : decode b_Fu_spendOnDrying 1 = .ok (.dup, 1) := by decide +kernel
theorem d_Fu_spendOnDrying_2 : decode b_Fu_spendOnDrying 2 = .ok (.getfield 7, 3) := by decide +kernel
theorem d_Fu_spendOnDrying_5 : decode b_Fu_spendOnDrying 5 = .ok (.lload_n 1, 1) := by decide +kernel
theorem d_Fu_spendOnDrying_6 : decode b_Fu_spendOnDrying 6 = .ok (.lsub, 1) := by decide +kernel
theorem d_Fu_spendOnDrying_7 : decode b_Fu_spendOnDrying 7 = .ok (.putfield 7, 3) := by decide +kernel
theorem d_Fu_spendOnDrying_10 : decode b_Fu_spendOnDrying 10 = .ok (.aload_n 0, 1) := by decide +kernel
theorem d_Fu_spendOnDrying_11 : decode b_Fu_spendOnDrying 11 = .ok (.dup, 1) := by decide +kernel
theorem d_Fu_spendOnDrying_12 : decode b_Fu_spendOnDrying 12 = .ok (.getfield 42, 3) := by decide +kernel
theorem d_Fu_spendOnDrying_15 : decode b_Fu_spendOnDrying 15 = .ok (.lload_n 1, 1) := by decide +kernel
theorem d_Fu_spendOnDrying_16 : decode b_Fu_spendOnDrying 16 = .ok (.ladd, 1) := by decide +kernel
theorem d_Fu_spendOnDrying_17 : decode b_Fu_spendOnDrying 17 = .ok (.putfield 42, 3) := by decide +kernel
theorem d_Fu_spendOnDrying_20 : decode b_Fu_spendOnDrying 20 = .ok (.return_, 1) := by decide +kernel
theorem d_Fu_takeFromFuel_0 : decode b_Fu_takeFromFuel 0 = .ok (.aload_n 0, 1) := by decide +kernel
theorem d_Fu_takeFromFuel_1 : decode b_Fu_takeFromFuel 1 = .ok (.dup, 1) := by decide +kernel
theorem d_Fu_takeFromFuel_2 : decode b_Fu_takeFromFuel 2 = .ok (.getfield 7, 3) := by decide +kernel
theorem d_Fu_takeFromFuel_5 : decode b_Fu_takeFromFuel 5 = .ok (.lload_n 1, 1) := by decide +kernel
theorem d_Fu_takeFromFuel_6 : decode b_Fu_takeFromFuel 6 = .ok (.ladd, 1) := by decide +kernel
theorem d_Fu_takeFromFuel_7 : decode b_Fu_takeFromFuel 7 = .ok (.putfield 7, 3) := by decide +kernel
theorem d_Fu_takeFromFuel_10 : decode b_Fu_takeFromFuel 10 = .ok (.aload_n 0, 1) := by decide +kernel
theorem d_Fu_takeFromFuel_11 : decode b_Fu_takeFromFuel 11 = .ok (.dup, 1) := by decide +kernel
theorem d_Fu_takeFromFuel_12 : decode b_Fu_takeFromFuel 12 = .ok (.getfield 33, 3) := by decide +kernel
theorem d_Fu_takeFromFuel_15 : decode b_Fu_takeFromFuel 15 = .ok (.lload_n 1, 1) := by decide +kernel
theorem d_Fu_takeFromFuel_16 : decode b_Fu_takeFromFuel 16 = .ok (.ladd, 1) := by decide +kernel
theorem d_Fu_takeFromFuel_17 : decode b_Fu_takeFromFuel 17 = .ok (.putfield 33, 3) := by decide +kernel
theorem d_Fu_takeFromFuel_20 : decode b_Fu_takeFromFuel 20 = .ok (.return_, 1) := by decide +kernel
theorem d_Fu_fireBurner_0 : decode b_Fu_fireBurner 0 = .ok (.aload_n 0, 1) := by decide +kernel
theorem d_Fu_fireBurner_1 : decode b_Fu_fireBurner 1 = .ok (.aload_n 0, 1) := by decide +kernel
theorem d_Fu_fireBurner_2 : decode b_Fu_fireBurner 2 = .ok (.getfield 20, 3) := by decide +kernel
theorem d_Fu_fireBurner_5 : decode b_Fu_fireBurner 5 = .ok (.ifCond .eq 20, 3) := by decide +kernel
theorem d_Fu_fireBurner_8 : decode b_Fu_fireBurner 8 = .ok (.aload_n 0, 1) := by decide +kernel
theorem d_Fu_fireBurner_9 : decode b_Fu_fireBurner 9 = .ok (.getfield 7, 3) := by decide +kernel
theorem d_Fu_fireBurner_12 : decode b_Fu_fireBurner 12 = .ok (.aload_n 0, 1) := by decide +kernel
theorem d_Fu_fireBurner_13 : decode b_Fu_fireBurner 13 = .ok (.getfield 27, 3) := by decide +kernel
theorem d_Fu_fireBurner_16 : decode b_Fu_fireBurner 16 = .ok (.i2l, 1) := by decide +kernel
theorem d_Fu_fireBurner_17 : decode b_Fu_fireBurner 17 = .ok (.lcmp, 1) := by decide +kernel
theorem d_Fu_fireBurner_18 : decode b_Fu_fireBurner 18 = .ok (.ifCond .ge 7, 3) := by decide +kernel
theorem d_Fu_fireBurner_21 : decode b_Fu_fireBurner 21 = .ok (.iconst 1, 1) := by decide +kernel
theorem d_Fu_fireBurner_22 : decode b_Fu_fireBurner 22 = .ok (.goto 4, 3) := by decide +kernel
theorem d_Fu_fireBurner_25 : decode b_Fu_fireBurner 25 = .ok (.iconst 0, 1) := by decide +kernel
theorem d_Fu_fireBurner_26 : decode b_Fu_fireBurner 26 = .ok (.putfield 24, 3) := by decide +kernel
theorem d_Fu_fireBurner_29 : decode b_Fu_fireBurner 29 = .ok (.aload_n 0, 1) := by decide +kernel
theorem d_Fu_fireBurner_30 : decode b_Fu_fireBurner 30 = .ok (.getfield 24, 3) := by decide +kernel
theorem d_Fu_fireBurner_33 : decode b_Fu_fireBurner 33 = .ok (.ifCond .eq 31, 3) := by decide +kernel
theorem d_Fu_fireBurner_36 : decode b_Fu_fireBurner 36 = .ok (.aload_n 0, 1) := by decide +kernel
theorem d_Fu_fireBurner_37 : decode b_Fu_fireBurner 37 = .ok (.dup, 1) := by decide +kernel
theorem d_Fu_fireBurner_38 : decode b_Fu_fireBurner 38 = .ok (.getfield 7, 3) := by decide +kernel
theorem d_Fu_fireBurner_41 : decode b_Fu_fireBurner 41 = .ok (.aload_n 0, 1) := by decide +kernel
theorem d_Fu_fireBurner_42 : decode b_Fu_fireBurner 42 = .ok (.getfield 30, 3) := by decide +kernel
theorem d_Fu_fireBurner_45 : decode b_Fu_fireBurner 45 = .ok (.i2l, 1) := by decide +kernel
theorem d_Fu_fireBurner_46 : decode b_Fu_fireBurner 46 = .ok (.ladd, 1) := by decide +kernel
theorem d_Fu_fireBurner_47 : decode b_Fu_fireBurner 47 = .ok (.putfield 7, 3) := by decide +kernel
theorem d_Fu_fireBurner_50 : decode b_Fu_fireBurner 50 = .ok (.aload_n 0, 1) := by decide +kernel
theorem d_Fu_fireBurner_51 : decode b_Fu_fireBurner 51 = .ok (.dup, 1) := by decide +kernel
theorem d_Fu_fireBurner_52 : decode b_Fu_fireBurner 52 = .ok (.getfield 36, 3) := by decide +kernel
theorem d_Fu_fireBurner_55 : decode b_Fu_fireBurner 55 = .ok (.aload_n 0, 1) := by decide +kernel
theorem d_Fu_fireBurner_56 : decode b_Fu_fireBurner 56 = .ok (.getfield 30, 3) := by decide +kernel
theorem d_Fu_fireBurner_59 : decode b_Fu_fireBurner 59 = .ok (.i2l, 1) := by decide +kernel
theorem d_Fu_fireBurner_60 : decode b_Fu_fireBurner 60 = .ok (.ladd, 1) := by decide +kernel
theorem d_Fu_fireBurner_61 : decode b_Fu_fireBurner 61 = .ok (.putfield 36, 3) := by decide +kernel
theorem d_Fu_fireBurner_64 : decode b_Fu_fireBurner 64 = .ok (.return_, 1) := by decide +kernel
theorem d_Fu_makeSteam_0 : decode b_Fu_makeSteam 0 = .ok (.aload_n 0, 1) := by decide +kernel
theorem d_Fu_makeSteam_1 : decode b_Fu_makeSteam 1 = .ok (.aload_n 0, 1) := by decide +kernel
theorem d_Fu_makeSteam_2 : decode b_Fu_makeSteam 2 = .ok (.getfield 7, 3) := by decide +kernel
theorem d_Fu_makeSteam_5 : decode b_Fu_makeSteam 5 = .ok (.aload_n 0, 1) := by decide +kernel
theorem d_Fu_makeSteam_6 : decode b_Fu_makeSteam 6 = .ok (.getfield 13, 3) := by decide +kernel
theorem d_Fu_makeSteam_9 : decode b_Fu_makeSteam 9 = .ok (.invokestatic 45, 3) := by decide +kernel
theorem d_Fu_makeSteam_12 : decode b_Fu_makeSteam 12 = .ok (.putfield 17, 3) := by decide +kernel
theorem d_Fu_makeSteam_15 : decode b_Fu_makeSteam 15 = .ok (.aload_n 0, 1) := by decide +kernel
theorem d_Fu_makeSteam_16 : decode b_Fu_makeSteam 16 = .ok (.dup, 1) := by decide +kernel
theorem d_Fu_makeSteam_17 : decode b_Fu_makeSteam 17 = .ok (.getfield 7, 3) := by decide +kernel
theorem d_Fu_makeSteam_20 : decode b_Fu_makeSteam 20 = .ok (.aload_n 0, 1) := by decide +kernel
theorem d_Fu_makeSteam_21 : decode b_Fu_makeSteam 21 = .ok (.getfield 17, 3) := by decide +kernel
theorem d_Fu_makeSteam_24 : decode b_Fu_makeSteam 24 = .ok (.lsub, 1) := by decide +kernel
theorem d_Fu_makeSteam_25 : decode b_Fu_makeSteam 25 = .ok (.putfield 7, 3) := by decide +kernel
theorem d_Fu_makeSteam_28 : decode b_Fu_makeSteam 28 = .ok (.aload_n 0, 1) := by decide +kernel
theorem d_Fu_makeSteam_29 : decode b_Fu_makeSteam 29 = .ok (.dup, 1) := by decide +kernel
theorem d_Fu_makeSteam_30 : decode b_Fu_makeSteam 30 = .ok (.getfield 39, 3) := by decide +kernel
theorem d_Fu_makeSteam_33 : decode b_Fu_makeSteam 33 = .ok (.aload_n 0, 1) := by decide +kernel
theorem d_Fu_makeSteam_34 : decode b_Fu_makeSteam 34 = .ok (.getfield 17, 3) := by decide +kernel
theorem d_Fu_makeSteam_37 : decode b_Fu_makeSteam 37 = .ok (.ladd, 1) := by decide +kernel
theorem d_Fu_makeSteam_38 : decode b_Fu_makeSteam 38 = .ok (.putfield 39, 3) := by decide +kernel
theorem d_Fu_makeSteam_41 : decode b_Fu_makeSteam 41 = .ok (.return_, 1) := by decide +kernel
theorem d_Fu_imbalance_0 : decode b_Fu_imbalance 0 = .ok (.aload_n 0, 1) := by decide +kernel
theorem d_Fu_imbalance_1 : decode b_Fu_imbalance 1 = .ok (.getfield 33, 3) := by decide +kernel
theorem d_Fu_imbalance_4 : decode b_Fu_imbalance 4 = .ok (.aload_n 0, 1) := by decide +kernel
theorem d_Fu_imbalance_5 : decode b_Fu_imbalance 5 = .ok (.getfield 36, 3) := by decide +kernel
theorem d_Fu_imbalance_8 : decode b_Fu_imbalance 8 = .ok (.ladd, 1) := by decide +kernel
theorem d_Fu_imbalance_9 : decode b_Fu_imbalance 9 = .ok (.aload_n 0, 1) := by decide +kernel
theorem d_Fu_imbalance_10 : decode b_Fu_imbalance 10 = .ok (.getfield 39, 3) := by decide +kernel
theorem d_Fu_imbalance_13 : decode b_Fu_imbalance 13 = .ok (.lsub, 1) := by decide +kernel
theorem d_Fu_imbalance_14 : decode b_Fu_imbalance 14 = .ok (.aload_n 0, 1) := by decide +kernel
theorem d_Fu_imbalance_15 : decode b_Fu_imbalance 15 = .ok (.getfield 42, 3) := by decide +kernel
theorem d_Fu_imbalance_18 : decode b_Fu_imbalance 18 = .ok (.lsub, 1) := by decide +kernel
theorem d_Fu_imbalance_19 : decode b_Fu_imbalance 19 = .ok (.aload_n 0, 1) := by decide +kernel
theorem d_Fu_imbalance_20 : decode b_Fu_imbalance 20 = .ok (.getfield 7, 3) := by decide +kernel
theorem d_Fu_imbalance_23 : decode b_Fu_imbalance 23 = .ok (.lsub, 1) := by decide +kernel
theorem d_Fu_imbalance_24 : decode b_Fu_imbalance 24 = .ok (.lreturn, 1) := by decide +kernel
theorem d_Gr_init_0 : decode b_Gr_init 0 = .ok (.aload_n 0, 1) := by decide +kernel
theorem d_Gr_init_1 : decode b_Gr_init 1 = .ok (.invokespecial 3, 3) := by decide +kernel
theorem d_Gr_init_4 : decode b_Gr_init 4 = .ok (.aload_n 0, 1) := by decide +kernel
theorem d_Gr_init_5 : decode b_Gr_init 5 = .ok (.bipush 100, 2) := by decide +kernel
theorem d_Gr_init_7 : decode b_Gr_init 7 = .ok (.putfield 9, 3) := by decide +kernel
theorem d_Gr_init_10 : decode b_Gr_init 10 = .ok (.aload_n 0, 1) := by decide +kernel
theorem d_Gr_init_11 : decode b_Gr_init 11 = .ok (.lconst 0, 1) := by decide +kernel
theorem d_Gr_init_12 : decode b_Gr_init 12 = .ok (.putfield 15, 3) := by decide +kernel
theorem d_Gr_init_15 : decode b_Gr_init 15 = .ok (.aload_n 0, 1) := by decide +kernel
theorem d_Gr_init_16 : decode b_Gr_init 16 = .ok (.lconst 0, 1) := by decide +kernel
theorem d_Gr_init_17 : decode b_Gr_init 17 = .ok (.putfield 19, 3) := by decide +kernel
theorem d_Gr_init_20 : decode b_Gr_init 20 = .ok (.aload_n 0, 1) := by decide +kernel
theorem d_Gr_init_21 : decode b_Gr_init 21 = .ok (.lconst 0, 1) := by decide +kernel
theorem d_Gr_init_22 : decode b_Gr_init 22 = .ok (.putfield 22, 3) := by decide +kernel
theorem d_Gr_init_25 : decode b_Gr_init 25 = .ok (.aload_n 0, 1) := by decide +kernel
theorem d_Gr_init_26 : decode b_Gr_init 26 = .ok (.lconst 0, 1) := by decide +kernel
theorem d_Gr_init_27 : decode b_Gr_init 27 = .ok (.putfield 25, 3) := by decide +kernel
theorem d_Gr_init_30 : decode b_Gr_init 30 = .ok (.aload_n 0, 1) := by decide +kernel
theorem d_Gr_init_31 : decode b_Gr_init 31 = .ok (.lconst 0, 1) := by decide +kernel
theorem d_Gr_init_32 : decode b_Gr_init 32 = .ok (.putfield 28, 3) := by decide +kernel
theorem d_Gr_init_35 : decode b_Gr_init 35 = .ok (.aload_n 0, 1) := by decide +kernel
theorem d_Gr_init_36 : decode b_Gr_init 36 = .ok (.lconst 0, 1) := by decide +kernel
theorem d_Gr_init_37 : decode b_Gr_init 37 = .ok (.putfield 31, 3) := by decide +kernel
theorem d_Gr_init_40 : decode b_Gr_init 40 = .ok (.aload_n 0, 1) := by decide +kernel
theorem d_Gr_init_41 : decode b_Gr_init 41 = .ok (.lconst 0, 1) := by decide +kernel
theorem d_Gr_init_42 : decode b_Gr_init 42 = .ok (.putfield 34, 3) := by decide +kernel
theorem d_Gr_init_45 : decode b_Gr_init 45 = .ok (.aload_n 0, 1) := by decide +kernel
theorem d_Gr_init_46 : decode b_Gr_init 46 = .ok (.iload_n 1, 1) := by decide +kernel
theorem d_Gr_init_47 : decode b_Gr_init 47 = .ok (.iconst 1, 1) := by decide +kernel
theorem d_Gr_init_48 : decode b_Gr_init 48 = .ok (.bipush 6, 2) := by decide +kernel
theorem d_Gr_init_50 : decode b_Gr_init 50 = .ok (.invokestatic 37, 3) := by decide +kernel
theorem d_Gr_init_53 : decode b_Gr_init 53 = .ok (.ifCond .eq 7, 3) := by decide +kernel
theorem d_Gr_init_56 : decode b_Gr_init 56 = .ok (.iload_n 1, 1) := by decide +kernel
theorem d_Gr_init_57 : decode b_Gr_init 57 = .ok (.goto 4, 3) := by decide +kernel
theorem d_Gr_init_60 : decode b_Gr_init 60 = .ok (.iconst 1, 1) := by decide +kernel
theorem d_Gr_init_61 : decode b_Gr_init 61 = .ok (.anewarray 41, 3) := by decide +kernel
theorem d_Gr_init_64 : decode b_Gr_init 64 = .ok (.putfield 43, 3) := by decide +kernel
theorem d_Gr_init_67 : decode b_Gr_init 67 = .ok (.iconst 0, 1) := by decide +kernel
theorem d_Gr_init_68 : decode b_Gr_init 68 = .ok (.istore_n 2, 1) := by decide +kernel
theorem d_Gr_init_69 : decode b_Gr_init 69 = .ok (.iload_n 2, 1) := by decide +kernel
theorem d_Gr_init_70 : decode b_Gr_init 70 = .ok (.aload_n 0, 1) := by decide +kernel
theorem d_Gr_init_71 : decode b_Gr_init 71 = .ok (.getfield 43, 3) := by decide +kernel
theorem d_Gr_init_74 : decode b_Gr_init 74 = .ok (.arraylength, 1) := by decide +kernel
theorem d_Gr_init_75 : decode b_Gr_init 75 = .ok (.if_icmp .ge 22, 3) := by decide +kernel
theorem d_Gr_init_78 : decode b_Gr_init 78 = .ok (.aload_n 0, 1) := by decide +kernel
theorem d_Gr_init_79 : decode b_Gr_init 79 = .ok (.getfield 43, 3) := by decide +kernel
theorem d_Gr_init_82 : decode b_Gr_init 82 = .ok (.iload_n 2, 1) := by decide +kernel
theorem d_Gr_init_83 : decode b_Gr_init 83 = .ok (.new 41, 3) := by decide +kernel
theorem d_Gr_init_86 : decode b_Gr_init 86 = .ok (.dup, 1) := by decide +kernel
theorem d_Gr_init_87 : decode b_Gr_init 87 = .ok (.invokespecial 47, 3) := by decide +kernel
theorem d_Gr_init_90 : decode b_Gr_init 90 = .ok (.aastore, 1) := by decide +kernel
theorem d_Gr_init_91 : decode b_Gr_init 91 = .ok (.iinc 2 1, 3) := by decide +kernel
theorem d_Gr_init_94 : decode b_Gr_init 94 = .ok (.goto (-25), 3) := by decide +kernel
theorem d_Gr_init_97 : decode b_Gr_init 97 = .ok (.return_, 1) := by decide +kernel
theorem d_Gr_hasZone_0 : decode b_Gr_hasZone 0 = .ok (.iload_n 1, 1) := by decide +kernel
theorem d_Gr_hasZone_1 : decode b_Gr_hasZone 1 = .ok (.ifCond .lt 16, 3) := by decide +kernel
theorem d_Gr_hasZone_4 : decode b_Gr_hasZone 4 = .ok (.iload_n 1, 1) := by decide +kernel
theorem d_Gr_hasZone_5 : decode b_Gr_hasZone 5 = .ok (.aload_n 0, 1) := by decide +kernel
theorem d_Gr_hasZone_6 : decode b_Gr_hasZone 6 = .ok (.getfield 43, 3) := by decide +kernel
theorem d_Gr_hasZone_9 : decode b_Gr_hasZone 9 = .ok (.arraylength, 1) := by decide +kernel
theorem d_Gr_hasZone_10 : decode b_Gr_hasZone 10 = .ok (.if_icmp .ge 7, 3) := by decide +kernel
theorem d_Gr_hasZone_13 : decode b_Gr_hasZone 13 = .ok (.iconst 1, 1) := by decide +kernel
theorem d_Gr_hasZone_14 : decode b_Gr_hasZone 14 = .ok (.goto 4, 3) := by decide +kernel
theorem d_Gr_hasZone_17 : decode b_Gr_hasZone 17 = .ok (.iconst 0, 1) := by decide +kernel
theorem d_Gr_hasZone_18 : decode b_Gr_hasZone 18 = .ok (.ireturn, 1) := by decide +kernel
theorem d_Gr_moveOn_0 : decode b_Gr_moveOn 0 = .ok (.aload_n 0, 1) := by decide +kernel
theorem d_Gr_moveOn_1 : decode b_Gr_moveOn 1 = .ok (.getfield 43, 3) := by decide +kernel
theorem d_Gr_moveOn_4 : decode b_Gr_moveOn 4 = .ok (.arraylength, 1) := by decide +kernel
theorem d_Gr_moveOn_5 : decode b_Gr_moveOn 5 = .ok (.iconst 1, 1) := by decide +kernel
theorem d_Gr_moveOn_6 : decode b_Gr_moveOn 6 = .ok (.isub, 1) := by decide +kernel
theorem d_Gr_moveOn_7 : decode b_Gr_moveOn 7 = .ok (.istore_n 1, 1) := by decide +kernel
theorem d_Gr_moveOn_8 : decode b_Gr_moveOn 8 = .ok (.iload_n 1, 1) := by decide +kernel
theorem d_Gr_moveOn_9 : decode b_Gr_moveOn 9 = .ok (.ifCond .lt 120, 3) := by decide +kernel
theorem d_Gr_moveOn_12 : decode b_Gr_moveOn 12 = .ok (.aload_n 0, 1) := by decide +kernel
theorem d_Gr_moveOn_13 : decode b_Gr_moveOn 13 = .ok (.getfield 43, 3) := by decide +kernel
theorem d_Gr_moveOn_16 : decode b_Gr_moveOn 16 = .ok (.iload_n 1, 1) := by decide +kernel
theorem d_Gr_moveOn_17 : decode b_Gr_moveOn 17 = .ok (.aaload, 1) := by decide +kernel
theorem d_Gr_moveOn_18 : decode b_Gr_moveOn 18 = .ok (.astore_n 2, 1) := by decide +kernel
theorem d_Gr_moveOn_19 : decode b_Gr_moveOn 19 = .ok (.aload_n 2, 1) := by decide +kernel
theorem d_Gr_moveOn_20 : decode b_Gr_moveOn 20 = .ok (.getfield 48, 3) := by decide +kernel
theorem d_Gr_moveOn_23 : decode b_Gr_moveOn 23 = .ok (.aload_n 0, 1) := by decide +kernel
theorem d_Gr_moveOn_24 : decode b_Gr_moveOn 24 = .ok (.getfield 9, 3) := by decide +kernel
theorem d_Gr_moveOn_27 : decode b_Gr_moveOn 27 = .ok (.invokestatic 51, 3) := by decide +kernel
theorem d_Gr_moveOn_30 : decode b_Gr_moveOn 30 = .ok (.lstore_n 3, 1) := by decide +kernel
theorem d_Gr_moveOn_31 : decode b_Gr_moveOn 31 = .ok (.aload_n 2, 1) := by decide +kernel
theorem d_Gr_moveOn_32 : decode b_Gr_moveOn 32 = .ok (.getfield 55, 3) := by decide +kernel
theorem d_Gr_moveOn_35 : decode b_Gr_moveOn 35 = .ok (.aload_n 0, 1) := by decide +kernel
theorem d_Gr_moveOn_36 : decode b_Gr_moveOn 36 = .ok (.getfield 9, 3) := by decide +kernel
theorem d_Gr_moveOn_39 : decode b_Gr_moveOn 39 = .ok (.invokestatic 51, 3) := by decide +kernel
theorem d_Gr_moveOn_42 : decode b_Gr_moveOn 42 = .ok (.lstore 5, 2) := by decide +kernel
theorem d_Gr_moveOn_44 : decode b_Gr_moveOn 44 = .ok (.aload_n 2, 1) := by decide +kernel
theorem d_Gr_moveOn_45 : decode b_Gr_moveOn 45 = .ok (.getfield 58, 3) := by decide +kernel
theorem d_Gr_moveOn_48 : decode b_Gr_moveOn 48 = .ok (.aload_n 0, 1) := by decide +kernel
theorem d_Gr_moveOn_49 : decode b_Gr_moveOn 49 = .ok (.getfield 9, 3) := by decide +kernel
theorem d_Gr_moveOn_52 : decode b_Gr_moveOn 52 = .ok (.invokestatic 51, 3) := by decide +kernel
theorem d_Gr_moveOn_55 : decode b_Gr_moveOn 55 = .ok (.lstore 7, 2) := by decide +kernel
theorem d_Gr_moveOn_57 : decode b_Gr_moveOn 57 = .ok (.aload_n 2, 1) := by decide +kernel
theorem d_Gr_moveOn_58 : decode b_Gr_moveOn 58 = .ok (.lload_n 3, 1) := by decide +kernel
theorem d_Gr_moveOn_59 : decode b_Gr_moveOn 59 = .ok (.lneg, 1) := by decide +kernel
theorem d_Gr_moveOn_60 : decode b_Gr_moveOn 60 = .ok (.lload 5, 2) := by decide +kernel
theorem d_Gr_moveOn_62 : decode b_Gr_moveOn 62 = .ok (.lneg, 1) := by decide +kernel
theorem d_Gr_moveOn_63 : decode b_Gr_moveOn 63 = .ok (.lload 7, 2) := by decide +kernel
theorem d_Gr_moveOn_65 : decode b_Gr_moveOn 65 = .ok (.lneg, 1) := by decide +kernel
theorem d_Gr_moveOn_66 : decode b_Gr_moveOn 66 = .ok (.invokevirtual 61, 3) := by decide +kernel
theorem d_Gr_moveOn_69 : decode b_Gr_moveOn 69 = .ok (.iload_n 1, 1) := by decide +kernel
theorem d_Gr_moveOn_70 : decode b_Gr_moveOn 70 = .ok (.iconst 1, 1) := by decide +kernel
theorem d_Gr_moveOn_71 : decode b_Gr_moveOn 71 = .ok (.iadd, 1) := by decide +kernel
theorem d_Gr_moveOn_72 : decode b_Gr_moveOn 72 = .ok (.aload_n 0, 1) := by decide +kernel
theorem d_Gr_moveOn_73 : decode b_Gr_moveOn 73 = .ok (.getfield 43, 3) := by decide +kernel
theorem d_Gr_moveOn_76 : decode b_Gr_moveOn 76 = .ok (.arraylength, 1) := by decide +kernel
theorem d_Gr_moveOn_77 : decode b_Gr_moveOn 77 = .ok (.if_icmp .ge 22, 3) := by decide +kernel
theorem d_Gr_moveOn_80 : decode b_Gr_moveOn 80 = .ok (.aload_n 0, 1) := by decide +kernel
theorem d_Gr_moveOn_81 : decode b_Gr_moveOn 81 = .ok (.getfield 43, 3) := by decide +kernel
theorem d_Gr_moveOn_84 : decode b_Gr_moveOn 84 = .ok (.iload_n 1, 1) := by decide +kernel
theorem d_Gr_moveOn_85 : decode b_Gr_moveOn 85 = .ok (.iconst 1, 1) := by decide +kernel
theorem d_Gr_moveOn_86 : decode b_Gr_moveOn 86 = .ok (.iadd, 1) := by decide +kernel
theorem d_Gr_moveOn_87 : decode b_Gr_moveOn 87 = .ok (.aaload, 1) := by decide +kernel
theorem d_Gr_moveOn_88 : decode b_Gr_moveOn 88 = .ok (.lload_n 3, 1) := by decide +kernel
theorem d_Gr_moveOn_89 : decode b_Gr_moveOn 89 = .ok (.lload 5, 2) := by decide +kernel
theorem d_Gr_moveOn_91 : decode b_Gr_moveOn 91 = .ok (.lload 7, 2) := by decide +kernel
theorem d_Gr_moveOn_93 : decode b_Gr_moveOn 93 = .ok (.invokevirtual 61, 3) := by decide +kernel
theorem d_Gr_moveOn_96 : decode b_Gr_moveOn 96 = .ok (.goto 27, 3) := by decide +kernel
theorem d_Gr_moveOn_99 : decode b_Gr_moveOn 99 = .ok (.aload_n 0, 1) := by decide +kernel
theorem d_Gr_moveOn_100 : decode b_Gr_moveOn 100 = .ok (.dup, 1) := by decide +kernel
theorem d_Gr_moveOn_101 : decode b_Gr_moveOn 101 = .ok (.getfield 31, 3) := by decide +kernel
theorem d_Gr_moveOn_104 : decode b_Gr_moveOn 104 = .ok (.lload_n 3, 1) := by decide +kernel
theorem d_Gr_moveOn_105 : decode b_Gr_moveOn 105 = .ok (.lload 5, 2) := by decide +kernel
theorem d_Gr_moveOn_107 : decode b_Gr_moveOn 107 = .ok (.ladd, 1) := by decide +kernel
theorem d_Gr_moveOn_108 : decode b_Gr_moveOn 108 = .ok (.ladd, 1) := by decide +kernel
theorem d_Gr_moveOn_109 : decode b_Gr_moveOn 109 = .ok (.putfield 31, 3) := by decide +kernel
theorem d_Gr_moveOn_112 : decode b_Gr_moveOn 112 = .ok (.aload_n 0, 1) := by decide +kernel
theorem d_Gr_moveOn_113 : decode b_Gr_moveOn 113 = .ok (.dup, 1) := by decide +kernel
theorem d_Gr_moveOn_114 : decode b_Gr_moveOn 114 = .ok (.getfield 34, 3) := by decide +kernel
theorem d_Gr_moveOn_117 : decode b_Gr_moveOn 117 = .ok (.lload 7, 2) := by decide +kernel
theorem d_Gr_moveOn_119 : decode b_Gr_moveOn 119 = .ok (.ladd, 1) := by decide +kernel
theorem d_Gr_moveOn_120 : decode b_Gr_moveOn 120 = .ok (.putfield 34, 3) := by decide +kernel
theorem d_Gr_moveOn_123 : decode b_Gr_moveOn 123 = .ok (.iinc 1 (-1), 3) := by decide +kernel
theorem d_Gr_moveOn_126 : decode b_Gr_moveOn 126 = .ok (.goto (-118), 3) := by decide +kernel
theorem d_Gr_moveOn_129 : decode b_Gr_moveOn 129 = .ok (.return_, 1) := by decide +kernel
theorem d_Gr_dryAndBurn_0 : decode b_Gr_dryAndBurn 0 = .ok (.lconst 0, 1) := by decide +kernel
theorem d_Gr_dryAndBurn_1 : decode b_Gr_dryAndBurn 1 = .ok (.lstore_n 2, 1) := by decide +kernel
theorem d_Gr_dryAndBurn_2 : decode b_Gr_dryAndBurn 2 = .ok (.aload_n 0, 1) := by decide +kernel
theorem d_Gr_dryAndBurn_3 : decode b_Gr_dryAndBurn 3 = .ok (.lconst 0, 1) := by decide +kernel
theorem d_Gr_dryAndBurn_4 : decode b_Gr_dryAndBurn 4 = .ok (.putfield 22, 3) := by decide +kernel
theorem d_Gr_dryAndBurn_7 : decode b_Gr_dryAndBurn 7 = .ok (.aload_n 0, 1) := by decide +kernel
theorem d_Gr_dryAndBurn_8 : decode b_Gr_dryAndBurn 8 = .ok (.lconst 0, 1) := by decide +kernel
theorem d_Gr_dryAndBurn_9 : decode b_Gr_dryAndBurn 9 = .ok (.putfield 19, 3) := by decide +kernel
theorem d_Gr_dryAndBurn_12 : decode b_Gr_dryAndBurn 12 = .ok (.aload_n 0, 1) := by decide +kernel
theorem d_Gr_dryAndBurn_13 : decode b_Gr_dryAndBurn 13 = .ok (.getfield 43, 3) := by decide +kernel
theorem d_Gr_dryAndBurn_16 : decode b_Gr_dryAndBurn 16 = .ok (.astore 4, 2) := by decide +kernel
theorem d_Gr_dryAndBurn_18 : decode b_Gr_dryAndBurn 18 = .ok (.aload 4, 2) := by decide +kernel
theorem d_Gr_dryAndBurn_20 : decode b_Gr_dryAndBurn 20 = .ok (.arraylength, 1) := by decide +kernel
theorem d_Gr_dryAndBurn_21 : decode b_Gr_dryAndBurn 21 = .ok (.istore 5, 2) := by decide +kernel
theorem d_Gr_dryAndBurn_23 : decode b_Gr_dryAndBurn 23 = .ok (.iconst 0, 1) := by decide +kernel
theorem d_Gr_dryAndBurn_24 : decode b_Gr_dryAndBurn 24 = .ok (.istore 6, 2) := by decide +kernel
theorem d_Gr_dryAndBurn_26 : decode b_Gr_dryAndBurn 26 = .ok (.iload 6, 2) := by decide +kernel
theorem d_Gr_dryAndBurn_28 : decode b_Gr_dryAndBurn 28 = .ok (.iload 5, 2) := by decide +kernel
theorem d_Gr_dryAndBurn_30 : decode b_Gr_dryAndBurn 30 = .ok (.if_icmp .ge 55, 3) := by decide +kernel
theorem d_Gr_dryAndBurn_33 : decode b_Gr_dryAndBurn 33 = .ok (.aload 4, 2) := by decide +kernel
theorem d_Gr_dryAndBurn_35 : decode b_Gr_dryAndBurn 35 = .ok (.iload 6, 2) := by decide +kernel
theorem d_Gr_dryAndBurn_37 : decode b_Gr_dryAndBurn 37 = .ok (.aaload, 1) := by decide +kernel
theorem d_Gr_dryAndBurn_38 : decode b_Gr_dryAndBurn 38 = .ok (.astore 7, 2) := by decide +kernel
theorem d_Gr_dryAndBurn_40 : decode b_Gr_dryAndBurn 40 = .ok (.aload_n 0, 1) := by decide +kernel
theorem d_Gr_dryAndBurn_41 : decode b_Gr_dryAndBurn 41 = .ok (.dup, 1) := by decide +kernel
theorem d_Gr_dryAndBurn_42 : decode b_Gr_dryAndBurn 42 = .ok (.getfield 22, 3) := by decide +kernel
theorem d_Gr_dryAndBurn_45 : decode b_Gr_dryAndBurn 45 = .ok (.aload 7, 2) := by decide +kernel
theorem d_Gr_dryAndBurn_47 : decode b_Gr_dryAndBurn 47 = .ok (.aload_n 1, 1) := by decide +kernel
theorem d_Gr_dryAndBurn_48 : decode b_Gr_dryAndBurn 48 = .ok (.invokevirtual 65, 3) := by decide +kernel
theorem d_Gr_dryAndBurn_51 : decode b_Gr_dryAndBurn 51 = .ok (.ladd, 1) := by decide +kernel
theorem d_Gr_dryAndBurn_52 : decode b_Gr_dryAndBurn 52 = .ok (.putfield 22, 3) := by decide +kernel
theorem d_Gr_dryAndBurn_55 : decode b_Gr_dryAndBurn 55 = .ok (.aload_n 0, 1) := by decide +kernel
theorem d_Gr_dryAndBurn_56 : decode b_Gr_dryAndBurn 56 = .ok (.dup, 1) := by decide +kernel
theorem d_Gr_dryAndBurn_57 : decode b_Gr_dryAndBurn 57 = .ok (.getfield 19, 3) := by decide +kernel
theorem d_Gr_dryAndBurn_60 : decode b_Gr_dryAndBurn 60 = .ok (.aload 7, 2) := by decide +kernel
theorem d_Gr_dryAndBurn_62 : decode b_Gr_dryAndBurn 62 = .ok (.aload_n 1, 1) := by decide +kernel
theorem d_Gr_dryAndBurn_63 : decode b_Gr_dryAndBurn 63 = .ok (.invokevirtual 69, 3) := by decide +kernel
theorem d_Gr_dryAndBurn_66 : decode b_Gr_dryAndBurn 66 = .ok (.ladd, 1) := by decide +kernel
theorem d_Gr_dryAndBurn_67 : decode b_Gr_dryAndBurn 67 = .ok (.putfield 19, 3) := by decide +kernel
theorem d_Gr_dryAndBurn_70 : decode b_Gr_dryAndBurn 70 = .ok (.lload_n 2, 1) := by decide +kernel
theorem d_Gr_dryAndBurn_71 : decode b_Gr_dryAndBurn 71 = .ok (.aload 7, 2) := by decide +kernel
theorem d_Gr_dryAndBurn_73 : decode b_Gr_dryAndBurn 73 = .ok (.getfield 72, 3) := by decide +kernel
theorem d_Gr_dryAndBurn_76 : decode b_Gr_dryAndBurn 76 = .ok (.i2l, 1) := by decide +kernel
theorem d_Gr_dryAndBurn_77 : decode b_Gr_dryAndBurn 77 = .ok (.ladd, 1) := by decide +kernel
theorem d_Gr_dryAndBurn_78 : decode b_Gr_dryAndBurn 78 = .ok (.lstore_n 2, 1) := by decide +kernel
theorem d_Gr_dryAndBurn_79 : decode b_Gr_dryAndBurn 79 = .ok (.iinc 6 1, 3) := by decide +kernel
theorem d_Gr_dryAndBurn_82 : decode b_Gr_dryAndBurn 82 = .ok (.goto (-56), 3) := by decide +kernel
theorem d_Gr_dryAndBurn_85 : decode b_Gr_dryAndBurn 85 = .ok (.aload_n 0, 1) := by decide +kernel
theorem d_Gr_dryAndBurn_86 : decode b_Gr_dryAndBurn 86 = .ok (.lload_n 2, 1) := by decide +kernel
theorem d_Gr_dryAndBurn_87 : decode b_Gr_dryAndBurn 87 = .ok (.aload_n 0, 1) := by decide +kernel
theorem d_Gr_dryAndBurn_88 : decode b_Gr_dryAndBurn 88 = .ok (.getfield 19, 3) := by decide +kernel
theorem d_Gr_dryAndBurn_91 : decode b_Gr_dryAndBurn 91 = .ok (.ldc2_w 75, 3) := by decide +kernel
theorem d_Gr_dryAndBurn_94 : decode b_Gr_dryAndBurn 94 = .ok (.lmul, 1) := by decide +kernel
theorem d_Gr_dryAndBurn_95 : decode b_Gr_dryAndBurn 95 = .ok (.lsub, 1) := by decide +kernel
theorem d_Gr_dryAndBurn_96 : decode b_Gr_dryAndBurn 96 = .ok (.putfield 15, 3) := by decide +kernel
theorem d_Gr_dryAndBurn_99 : decode b_Gr_dryAndBurn 99 = .ok (.aload_n 0, 1) := by decide +kernel
theorem d_Gr_dryAndBurn_100 : decode b_Gr_dryAndBurn 100 = .ok (.dup, 1) := by decide +kernel
theorem d_Gr_dryAndBurn_101 : decode b_Gr_dryAndBurn 101 = .ok (.getfield 25, 3) := by decide +kernel
theorem d_Gr_dryAndBurn_104 : decode b_Gr_dryAndBurn 104 = .ok (.aload_n 0, 1) := by decide +kernel
theorem d_Gr_dryAndBurn_105 : decode b_Gr_dryAndBurn 105 = .ok (.getfield 22, 3) := by decide +kernel
theorem d_Gr_dryAndBurn_108 : decode b_Gr_dryAndBurn 108 = .ok (.ladd, 1) := by decide +kernel
theorem d_Gr_dryAndBurn_109 : decode b_Gr_dryAndBurn 109 = .ok (.putfield 25, 3) := by decide +kernel
theorem d_Gr_dryAndBurn_112 : decode b_Gr_dryAndBurn 112 = .ok (.aload_n 0, 1) := by decide +kernel
theorem d_Gr_dryAndBurn_113 : decode b_Gr_dryAndBurn 113 = .ok (.dup, 1) := by decide +kernel
theorem d_Gr_dryAndBurn_114 : decode b_Gr_dryAndBurn 114 = .ok (.getfield 28, 3) := by decide +kernel
theorem d_Gr_dryAndBurn_117 : decode b_Gr_dryAndBurn 117 = .ok (.aload_n 0, 1) := by decide +kernel
theorem d_Gr_dryAndBurn_118 : decode b_Gr_dryAndBurn 118 = .ok (.getfield 19, 3) := by decide +kernel
theorem d_Gr_dryAndBurn_121 : decode b_Gr_dryAndBurn 121 = .ok (.ladd, 1) := by decide +kernel
theorem d_Gr_dryAndBurn_122 : decode b_Gr_dryAndBurn 122 = .ok (.putfield 28, 3) := by decide +kernel
theorem d_Gr_dryAndBurn_125 : decode b_Gr_dryAndBurn 125 = .ok (.return_, 1) := by decide +kernel
theorem d_Gr_blow_0 : decode b_Gr_blow 0 = .ok (.aload_n 0, 1) := by decide +kernel
theorem d_Gr_blow_1 : decode b_Gr_blow 1 = .ok (.getfield 43, 3) := by decide +kernel
theorem d_Gr_blow_4 : decode b_Gr_blow 4 = .ok (.astore_n 2, 1) := by decide +kernel
theorem d_Gr_blow_5 : decode b_Gr_blow 5 = .ok (.aload_n 2, 1) := by decide +kernel
theorem d_Gr_blow_6 : decode b_Gr_blow 6 = .ok (.arraylength, 1) := by decide +kernel
theorem d_Gr_blow_7 : decode b_Gr_blow 7 = .ok (.istore_n 3, 1) := by decide +kernel
theorem d_Gr_blow_8 : decode b_Gr_blow 8 = .ok (.iconst 0, 1) := by decide +kernel
theorem d_Gr_blow_9 : decode b_Gr_blow 9 = .ok (.istore 4, 2) := by decide +kernel
theorem d_Gr_blow_11 : decode b_Gr_blow 11 = .ok (.iload 4, 2) := by decide +kernel
theorem d_Gr_blow_13 : decode b_Gr_blow 13 = .ok (.iload_n 3, 1) := by decide +kernel
theorem d_Gr_blow_14 : decode b_Gr_blow 14 = .ok (.if_icmp .ge 21, 3) := by decide +kernel
theorem d_Gr_blow_17 : decode b_Gr_blow 17 = .ok (.aload_n 2, 1) := by decide +kernel
theorem d_Gr_blow_18 : decode b_Gr_blow 18 = .ok (.iload 4, 2) := by decide +kernel
theorem d_Gr_blow_20 : decode b_Gr_blow 20 = .ok (.aaload, 1) := by decide +kernel
theorem d_Gr_blow_21 : decode b_Gr_blow 21 = .ok (.astore 5, 2) := by decide +kernel
theorem d_Gr_blow_23 : decode b_Gr_blow 23 = .ok (.aload 5, 2) := by decide +kernel
theorem d_Gr_blow_25 : decode b_Gr_blow 25 = .ok (.iload_n 1, 1) := by decide +kernel
theorem d_Gr_blow_26 : decode b_Gr_blow 26 = .ok (.putfield 72, 3) := by decide +kernel
theorem d_Gr_blow_29 : decode b_Gr_blow 29 = .ok (.iinc 4 1, 3) := by decide +kernel
theorem d_Gr_blow_32 : decode b_Gr_blow 32 = .ok (.goto (-21), 3) := by decide +kernel
theorem d_Gr_blow_35 : decode b_Gr_blow 35 = .ok (.return_, 1) := by decide +kernel
theorem d_Gr_lying_0 : decode b_Gr_lying 0 = .ok (.lconst 0, 1) := by decide +kernel
theorem d_Gr_lying_1 : decode b_Gr_lying 1 = .ok (.lstore_n 1, 1) := by decide +kernel
theorem d_Gr_lying_2 : decode b_Gr_lying 2 = .ok (.aload_n 0, 1) := by decide +kernel
theorem d_Gr_lying_3 : decode b_Gr_lying 3 = .ok (.getfield 43, 3) := by decide +kernel
theorem d_Gr_lying_6 : decode b_Gr_lying 6 = .ok (.astore_n 3, 1) := by decide +kernel
theorem d_Gr_lying_7 : decode b_Gr_lying 7 = .ok (.aload_n 3, 1) := by decide +kernel
theorem d_Gr_lying_8 : decode b_Gr_lying 8 = .ok (.arraylength, 1) := by decide +kernel
theorem d_Gr_lying_9 : decode b_Gr_lying 9 = .ok (.istore 4, 2) := by decide +kernel
theorem d_Gr_lying_11 : decode b_Gr_lying 11 = .ok (.iconst 0, 1) := by decide +kernel
theorem d_Gr_lying_12 : decode b_Gr_lying 12 = .ok (.istore 5, 2) := by decide +kernel
theorem d_Gr_lying_14 : decode b_Gr_lying 14 = .ok (.iload 5, 2) := by decide +kernel
theorem d_Gr_lying_16 : decode b_Gr_lying 16 = .ok (.iload 4, 2) := by decide +kernel
theorem d_Gr_lying_18 : decode b_Gr_lying 18 = .ok (.if_icmp .ge 35, 3) := by decide +kernel
theorem d_Gr_lying_21 : decode b_Gr_lying 21 = .ok (.aload_n 3, 1) := by decide +kernel
theorem d_Gr_lying_22 : decode b_Gr_lying 22 = .ok (.iload 5, 2) := by decide +kernel
theorem d_Gr_lying_24 : decode b_Gr_lying 24 = .ok (.aaload, 1) := by decide +kernel
theorem d_Gr_lying_25 : decode b_Gr_lying 25 = .ok (.astore 6, 2) := by decide +kernel
theorem d_Gr_lying_27 : decode b_Gr_lying 27 = .ok (.lload_n 1, 1) := by decide +kernel
theorem d_Gr_lying_28 : decode b_Gr_lying 28 = .ok (.aload 6, 2) := by decide +kernel
theorem d_Gr_lying_30 : decode b_Gr_lying 30 = .ok (.getfield 48, 3) := by decide +kernel
theorem d_Gr_lying_33 : decode b_Gr_lying 33 = .ok (.aload 6, 2) := by decide +kernel
theorem d_Gr_lying_35 : decode b_Gr_lying 35 = .ok (.getfield 55, 3) := by decide +kernel
theorem d_Gr_lying_38 : decode b_Gr_lying 38 = .ok (.ladd, 1) := by decide +kernel
theorem d_Gr_lying_39 : decode b_Gr_lying 39 = .ok (.aload 6, 2) := by decide +kernel
theorem d_Gr_lying_41 : decode b_Gr_lying 41 = .ok (.getfield 58, 3) := by decide +kernel
theorem d_Gr_lying_44 : decode b_Gr_lying 44 = .ok (.ladd, 1) := by decide +kernel
theorem d_Gr_lying_45 : decode b_Gr_lying 45 = .ok (.ladd, 1) := by decide +kernel
theorem d_Gr_lying_46 : decode b_Gr_lying 46 = .ok (.lstore_n 1, 1) := by decide +kernel
theorem d_Gr_lying_47 : decode b_Gr_lying 47 = .ok (.iinc 5 1, 3) := by decide +kernel
theorem d_Gr_lying_50 : decode b_Gr_lying 50 = .ok (.goto (-36), 3) := by decide +kernel
theorem d_Gr_lying_53 : decode b_Gr_lying 53 = .ok (.lload_n 1, 1) := by decide +kernel
theorem d_Gr_lying_54 : decode b_Gr_lying 54 = .ok (.lreturn, 1) := by decide +kernel
theorem d_Gr_gone_0 : decode b_Gr_gone 0 = .ok (.aload_n 0, 1) := by decide +kernel
theorem d_Gr_gone_1 : decode b_Gr_gone 1 = .ok (.getfield 25, 3) := by decide +kernel
theorem d_Gr_gone_4 : decode b_Gr_gone 4 = .ok (.aload_n 0, 1) := by decide +kernel
theorem d_Gr_gone_5 : decode b_Gr_gone 5 = .ok (.getfield 28, 3) := by decide +kernel
theorem d_Gr_gone_8 : decode b_Gr_gone 8 = .ok (.ladd, 1) := by decide +kernel
theorem d_Gr_gone_9 : decode b_Gr_gone 9 = .ok (.aload_n 0, 1) := by decide +kernel
theorem d_Gr_gone_10 : decode b_Gr_gone 10 = .ok (.getfield 31, 3) := by decide +kernel
theorem d_Gr_gone_13 : decode b_Gr_gone 13 = .ok (.ladd, 1) := by decide +kernel
theorem d_Gr_gone_14 : decode b_Gr_gone 14 = .ok (.aload_n 0, 1) := by decide +kernel
theorem d_Gr_gone_15 : decode b_Gr_gone 15 = .ok (.getfield 34, 3) := by decide +kernel
theorem d_Gr_gone_18 : decode b_Gr_gone 18 = .ok (.ladd, 1) := by decide +kernel
theorem d_Gr_gone_19 : decode b_Gr_gone 19 = .ok (.lreturn, 1) := by decide +kernel
theorem d_Ki_init_0 : decode b_Ki_init 0 = .ok (.aload_n 0, 1) := by decide +kernel
theorem d_Ki_init_1 : decode b_Ki_init 1 = .ok (.invokespecial 1, 3) := by decide +kernel
theorem d_Ki_init_4 : decode b_Ki_init 4 = .ok (.aload_n 0, 1) := by decide +kernel
theorem d_Ki_init_5 : decode b_Ki_init 5 = .ok (.iconst 0, 1) := by decide +kernel
theorem d_Ki_init_6 : decode b_Ki_init 6 = .ok (.putfield 7, 3) := by decide +kernel
theorem d_Ki_init_9 : decode b_Ki_init 9 = .ok (.aload_n 0, 1) := by decide +kernel
theorem d_Ki_init_10 : decode b_Ki_init 10 = .ok (.iconst 0, 1) := by decide +kernel
theorem d_Ki_init_11 : decode b_Ki_init 11 = .ok (.putfield 13, 3) := by decide +kernel
theorem d_Ki_init_14 : decode b_Ki_init 14 = .ok (.aload_n 0, 1) := by decide +kernel
theorem d_Ki_init_15 : decode b_Ki_init 15 = .ok (.lconst 0, 1) := by decide +kernel
theorem d_Ki_init_16 : decode b_Ki_init 16 = .ok (.putfield 16, 3) := by decide +kernel
theorem d_Ki_init_19 : decode b_Ki_init 19 = .ok (.return_, 1) := by decide +kernel
theorem d_Mi_init_0 : decode b_Mi_init 0 = .ok (.aload_n 0, 1) := by decide +kernel
theorem d_Mi_init_1 : decode b_Mi_init 1 = .ok (.invokespecial 3, 3) := by decide +kernel
theorem d_Mi_init_4 : decode b_Mi_init 4 = .ok (.aload_n 0, 1) := by decide +kernel
theorem d_Mi_init_5 : decode b_Mi_init 5 = .ok (.iconst 4, 1) := by decide +kernel
theorem d_Mi_init_6 : decode b_Mi_init 6 = .ok (.newarray .int, 2) := by decide +kernel
theorem d_Mi_init_8 : decode b_Mi_init 8 = .ok (.putfield 9, 3) := by decide +kernel
theorem d_Mi_init_11 : decode b_Mi_init 11 = .ok (.aload_n 0, 1) := by decide +kernel
theorem d_Mi_init_12 : decode b_Mi_init 12 = .ok (.iconst 0, 1) := by decide +kernel
theorem d_Mi_init_13 : decode b_Mi_init 13 = .ok (.putfield 15, 3) := by decide +kernel
theorem d_Mi_init_16 : decode b_Mi_init 16 = .ok (.aload_n 0, 1) := by decide +kernel
theorem d_Mi_init_17 : decode b_Mi_init 17 = .ok (.iconst 4, 1) := by decide +kernel
theorem d_Mi_init_18 : decode b_Mi_init 18 = .ok (.newarray .int, 2) := by decide +kernel
theorem d_Mi_init_20 : decode b_Mi_init 20 = .ok (.putfield 19, 3) := by decide +kernel
theorem d_Mi_init_23 : decode b_Mi_init 23 = .ok (.aload_n 0, 1) := by decide +kernel
theorem d_Mi_init_24 : decode b_Mi_init 24 = .ok (.bipush 6, 2) := by decide +kernel
theorem d_Mi_init_26 : decode b_Mi_init 26 = .ok (.iconst 4, 1) := by decide +kernel
theorem d_Mi_init_27 : decode b_Mi_init 27 = .ok (.multianewarray 22 2, 4) := by decide +kernel
theorem d_Mi_init_31 : decode b_Mi_init 31 = .ok (.putfield 24, 3) := by decide +kernel
theorem d_Mi_init_34 : decode b_Mi_init 34 = .ok (.aload_n 0, 1) := by decide +kernel
theorem d_Mi_init_35 : decode b_Mi_init 35 = .ok (.bipush 6, 2) := by decide +kernel
theorem d_Mi_init_37 : decode b_Mi_init 37 = .ok (.newarray .int, 2) := by decide +kernel
theorem d_Mi_init_39 : decode b_Mi_init 39 = .ok (.putfield 27, 3) := by decide +kernel
theorem d_Mi_init_42 : decode b_Mi_init 42 = .ok (.aload_n 0, 1) := by decide +kernel
theorem d_Mi_init_43 : decode b_Mi_init 43 = .ok (.iconst 0, 1) := by decide +kernel
theorem d_Mi_init_44 : decode b_Mi_init 44 = .ok (.putfield 30, 3) := by decide +kernel
theorem d_Mi_init_47 : decode b_Mi_init 47 = .ok (.return_, 1) := by decide +kernel
theorem d_Mi_look_0 : decode b_Mi_look 0 = .ok (.aload_n 0, 1) := by decide +kernel
theorem d_Mi_look_1 : decode b_Mi_look 1 = .ok (.iconst 0, 1) := by decide +kernel
theorem d_Mi_look_2 : decode b_Mi_look 2 = .ok (.putfield 30, 3) := by decide +kernel
theorem d_Mi_look_5 : decode b_Mi_look 5 = .ok (.iconst 0, 1) := by decide +kernel
theorem d_Mi_look_6 : decode b_Mi_look 6 = .ok (.istore_n 2, 1) := by decide +kernel
theorem d_Mi_look_7 : decode b_Mi_look 7 = .ok (.iload_n 2, 1) := by decide +kernel
theorem d_Mi_look_8 : decode b_Mi_look 8 = .ok (.bipush 6, 2) := by decide +kernel
theorem d_Mi_look_10 : decode b_Mi_look 10 = .ok (.if_icmp .ge 88, 3) := by decide +kernel
theorem d_Mi_look_13 : decode b_Mi_look 13 = .ok (.iload_n 2, 1) := by decide +kernel
theorem d_Mi_look_14 : decode b_Mi_look 14 = .ok (.aload_n 1, 1) := by decide +kernel
theorem d_Mi_look_15 : decode b_Mi_look 15 = .ok (.arraylength, 1) := by decide +kernel
theorem d_Mi_look_16 : decode b_Mi_look 16 = .ok (.if_icmp .ge 82, 3) := by decide +kernel
theorem d_Mi_look_19 : decode b_Mi_look 19 = .ok (.aload_n 1, 1) := by decide +kernel
theorem d_Mi_look_20 : decode b_Mi_look 20 = .ok (.iload_n 2, 1) := by decide +kernel
theorem d_Mi_look_21 : decode b_Mi_look 21 = .ok (.aaload, 1) := by decide +kernel
theorem d_Mi_look_22 : decode b_Mi_look 22 = .ok (.invokevirtual 33, 3) := by decide +kernel
theorem d_Mi_look_25 : decode b_Mi_look 25 = .ok (.istore_n 3, 1) := by decide +kernel
theorem d_Mi_look_26 : decode b_Mi_look 26 = .ok (.iload_n 3, 1) := by decide +kernel
theorem d_Mi_look_27 : decode b_Mi_look 27 = .ok (.ifCond .le 65, 3) := by decide +kernel
theorem d_Mi_look_30 : decode b_Mi_look 30 = .ok (.iconst 0, 1) := by decide +kernel
theorem d_Mi_look_31 : decode b_Mi_look 31 = .ok (.istore 4, 2) := by decide +kernel
theorem d_Mi_look_33 : decode b_Mi_look 33 = .ok (.iload 4, 2) := by decide +kernel
theorem d_Mi_look_35 : decode b_Mi_look 35 = .ok (.iconst 4, 1) := by decide +kernel
theorem d_Mi_look_36 : decode b_Mi_look 36 = .ok (.if_icmp .ge 36, 3) := by decide +kernel
theorem d_Mi_look_39 : decode b_Mi_look 39 = .ok (.aload_n 0, 1) := by decide +kernel
theorem d_Mi_look_40 : decode b_Mi_look 40 = .ok (.getfield 24, 3) := by decide +kernel
theorem d_Mi_look_43 : decode b_Mi_look 43 = .ok (.iload_n 2, 1) := by decide +kernel
theorem d_Mi_look_44 : decode b_Mi_look 44 = .ok (.aaload, 1) := by decide +kernel
theorem d_Mi_look_45 : decode b_Mi_look 45 = .ok (.iload 4, 2) := by decide +kernel
theorem d_Mi_look_47 : decode b_Mi_look 47 = .ok (.aload_n 1, 1) := by decide +kernel
theorem d_Mi_look_48 : decode b_Mi_look 48 = .ok (.iload_n 2, 1) := by decide +kernel
theorem d_Mi_look_49 : decode b_Mi_look 49 = .ok (.aaload, 1) := by decide +kernel
theorem d_Mi_look_50 : decode b_Mi_look 50 = .ok (.getfield 39, 3) := by decide +kernel
theorem d_Mi_look_53 : decode b_Mi_look 53 = .ok (.iload 4, 2) := by decide +kernel
theorem d_Mi_look_55 : decode b_Mi_look 55 = .ok (.iaload, 1) := by decide +kernel
theorem d_Mi_look_56 : decode b_Mi_look 56 = .ok (.i2l, 1) := by decide +kernel
theorem d_Mi_look_57 : decode b_Mi_look 57 = .ok (.ldc2_w 42, 3) := by decide +kernel
theorem d_Mi_look_60 : decode b_Mi_look 60 = .ok (.lmul, 1) := by decide +kernel
theorem d_Mi_look_61 : decode b_Mi_look 61 = .ok (.iload_n 3, 1) := by decide +kernel
theorem d_Mi_look_62 : decode b_Mi_look 62 = .ok (.i2l, 1) := by decide +kernel
theorem d_Mi_look_63 : decode b_Mi_look 63 = .ok (.ldiv, 1) := by decide +kernel
theorem d_Mi_look_64 : decode b_Mi_look 64 = .ok (.l2i, 1) := by decide +kernel
theorem d_Mi_look_65 : decode b_Mi_look 65 = .ok (.iastore, 1) := by decide +kernel
theorem d_Mi_look_66 : decode b_Mi_look 66 = .ok (.iinc 4 1, 3) := by decide +kernel
theorem d_Mi_look_69 : decode b_Mi_look 69 = .ok (.goto (-36), 3) := by decide +kernel
theorem d_Mi_look_72 : decode b_Mi_look 72 = .ok (.aload_n 0, 1) := by decide +kernel
theorem d_Mi_look_73 : decode b_Mi_look 73 = .ok (.getfield 27, 3) := by decide +kernel
theorem d_Mi_look_76 : decode b_Mi_look 76 = .ok (.aload_n 0, 1) := by decide +kernel
theorem d_Mi_look_77 : decode b_Mi_look 77 = .ok (.getfield 30, 3) := by decide +kernel
theorem d_Mi_look_80 : decode b_Mi_look 80 = .ok (.iload_n 2, 1) := by decide +kernel
theorem d_Mi_look_81 : decode b_Mi_look 81 = .ok (.iastore, 1) := by decide +kernel
theorem d_Mi_look_82 : decode b_Mi_look 82 = .ok (.aload_n 0, 1) := by decide +kernel
theorem d_Mi_look_83 : decode b_Mi_look 83 = .ok (.dup, 1) := by decide +kernel
theorem d_Mi_look_84 : decode b_Mi_look 84 = .ok (.getfield 30, 3) := by decide +kernel
theorem d_Mi_look_87 : decode b_Mi_look 87 = .ok (.iconst 1, 1) := by decide +kernel
theorem d_Mi_look_88 : decode b_Mi_look 88 = .ok (.iadd, 1) := by decide +kernel
theorem d_Mi_look_89 : decode b_Mi_look 89 = .ok (.putfield 30, 3) := by decide +kernel
theorem d_Mi_look_92 : decode b_Mi_look 92 = .ok (.iinc 2 1, 3) := by decide +kernel
theorem d_Mi_look_95 : decode b_Mi_look 95 = .ok (.goto (-88), 3) := by decide +kernel
theorem d_Mi_look_98 : decode b_Mi_look 98 = .ok (.return_, 1) := by decide +kernel
theorem d_Mi_leastSpread_0 : decode b_Mi_leastSpread 0 = .ok (.iconst (-1), 1) := by decide +kernel
theorem d_Mi_leastSpread_1 : decode b_Mi_leastSpread 1 = .ok (.istore_n 2, 1) := by decide +kernel
theorem d_Mi_leastSpread_2 : decode b_Mi_leastSpread 2 = .ok (.aload_n 0, 1) := by decide +kernel
theorem d_Mi_leastSpread_3 : decode b_Mi_leastSpread 3 = .ok (.iload_n 1, 1) := by decide +kernel
theorem d_Mi_leastSpread_4 : decode b_Mi_leastSpread 4 = .ok (.invokevirtual 44, 3) := by decide +kernel
theorem d_Mi_leastSpread_7 : decode b_Mi_leastSpread 7 = .ok (.istore_n 3, 1) := by decide +kernel
theorem d_Mi_leastSpread_8 : decode b_Mi_leastSpread 8 = .ok (.iconst 0, 1) := by decide +kernel
theorem d_Mi_leastSpread_9 : decode b_Mi_leastSpread 9 = .ok (.istore 4, 2) := by decide +kernel
theorem d_Mi_leastSpread_11 : decode b_Mi_leastSpread 11 = .ok (.iload 4, 2) := by decide +kernel
theorem d_Mi_leastSpread_13 : decode b_Mi_leastSpread 13 = .ok (.iload_n 3, 1) := by decide +kernel
theorem d_Mi_leastSpread_14 : decode b_Mi_leastSpread 14 = .ok (.if_icmp .ge 42, 3) := by decide +kernel
theorem d_Mi_leastSpread_17 : decode b_Mi_leastSpread 17 = .ok (.aload_n 0, 1) := by decide +kernel
theorem d_Mi_leastSpread_18 : decode b_Mi_leastSpread 18 = .ok (.iload 4, 2) := by decide +kernel
theorem d_Mi_leastSpread_20 : decode b_Mi_leastSpread 20 = .ok (.iload_n 1, 1) := by decide +kernel
theorem d_Mi_leastSpread_21 : decode b_Mi_leastSpread 21 = .ok (.invokevirtual 48, 3) := by decide +kernel
theorem d_Mi_leastSpread_24 : decode b_Mi_leastSpread 24 = .ok (.aload_n 0, 1) := by decide +kernel
theorem d_Mi_leastSpread_25 : decode b_Mi_leastSpread 25 = .ok (.iload_n 1, 1) := by decide +kernel
theorem d_Mi_leastSpread_26 : decode b_Mi_leastSpread 26 = .ok (.invokevirtual 52, 3) := by decide +kernel
theorem d_Mi_leastSpread_29 : decode b_Mi_leastSpread 29 = .ok (.istore 5, 2) := by decide +kernel
theorem d_Mi_leastSpread_31 : decode b_Mi_leastSpread 31 = .ok (.iload_n 2, 1) := by decide +kernel
theorem d_Mi_leastSpread_32 : decode b_Mi_leastSpread 32 = .ok (.iconst (-1), 1) := by decide +kernel
theorem d_Mi_leastSpread_33 : decode b_Mi_leastSpread 33 = .ok (.if_icmp .eq 9, 3) := by decide +kernel
theorem d_Mi_leastSpread_36 : decode b_Mi_leastSpread 36 = .ok (.iload 5, 2) := by decide +kernel
theorem d_Mi_leastSpread_38 : decode b_Mi_leastSpread 38 = .ok (.iload_n 2, 1) := by decide +kernel
theorem d_Mi_leastSpread_39 : decode b_Mi_leastSpread 39 = .ok (.if_icmp .ge 11, 3) := by decide +kernel
theorem d_Mi_leastSpread_42 : decode b_Mi_leastSpread 42 = .ok (.iload 5, 2) := by decide +kernel
theorem d_Mi_leastSpread_44 : decode b_Mi_leastSpread 44 = .ok (.istore_n 2, 1) := by decide +kernel
theorem d_Mi_leastSpread_45 : decode b_Mi_leastSpread 45 = .ok (.aload_n 0, 1) := by decide +kernel
theorem d_Mi_leastSpread_46 : decode b_Mi_leastSpread 46 = .ok (.iload_n 1, 1) := by decide +kernel
theorem d_Mi_leastSpread_47 : decode b_Mi_leastSpread 47 = .ok (.invokevirtual 55, 3) := by decide +kernel
theorem d_Mi_leastSpread_50 : decode b_Mi_leastSpread 50 = .ok (.iinc 4 1, 3) := by decide +kernel
theorem d_Mi_leastSpread_53 : decode b_Mi_leastSpread 53 = .ok (.goto (-42), 3) := by decide +kernel
theorem d_Mi_leastSpread_56 : decode b_Mi_leastSpread 56 = .ok (.iload_n 2, 1) := by decide +kernel
theorem d_Mi_leastSpread_57 : decode b_Mi_leastSpread 57 = .ok (.ireturn, 1) := by decide +kernel
theorem d_Mi_countPlans_0 : decode b_Mi_countPlans 0 = .ok (.iconst 1, 1) := by decide +kernel
theorem d_Mi_countPlans_1 : decode b_Mi_countPlans 1 = .ok (.istore_n 2, 1) := by decide +kernel
theorem d_Mi_countPlans_2 : decode b_Mi_countPlans 2 = .ok (.iconst 0, 1) := by decide +kernel
theorem d_Mi_countPlans_3 : decode b_Mi_countPlans 3 = .ok (.istore_n 3, 1) := by decide +kernel
theorem d_Mi_countPlans_4 : decode b_Mi_countPlans 4 = .ok (.iload_n 3, 1) := by decide +kernel
theorem d_Mi_countPlans_5 : decode b_Mi_countPlans 5 = .ok (.iload_n 1, 1) := by decide +kernel
theorem d_Mi_countPlans_6 : decode b_Mi_countPlans 6 = .ok (.if_icmp .ge 16, 3) := by decide +kernel
theorem d_Mi_countPlans_9 : decode b_Mi_countPlans 9 = .ok (.iload_n 2, 1) := by decide +kernel
theorem d_Mi_countPlans_10 : decode b_Mi_countPlans 10 = .ok (.aload_n 0, 1) := by decide +kernel
theorem d_Mi_countPlans_11 : decode b_Mi_countPlans 11 = .ok (.getfield 30, 3) := by decide +kernel
theorem d_Mi_countPlans_14 : decode b_Mi_countPlans 14 = .ok (.imul, 1) := by decide +kernel
theorem d_Mi_countPlans_15 : decode b_Mi_countPlans 15 = .ok (.istore_n 2, 1) := by decide +kernel
theorem d_Mi_countPlans_16 : decode b_Mi_countPlans 16 = .ok (.iinc 3 1, 3) := by decide +kernel
theorem d_Mi_countPlans_19 : decode b_Mi_countPlans 19 = .ok (.goto (-15), 3) := by decide +kernel
theorem d_Mi_countPlans_22 : decode b_Mi_countPlans 22 = .ok (.iload_n 2, 1) := by decide +kernel
theorem d_Mi_countPlans_23 : decode b_Mi_countPlans 23 = .ok (.ireturn, 1) := by decide +kernel
theorem d_Mi_spellTrial_0 : decode b_Mi_spellTrial 0 = .ok (.iload_n 1, 1) := by decide +kernel
theorem d_Mi_spellTrial_1 : decode b_Mi_spellTrial 1 = .ok (.istore_n 3, 1) := by decide +kernel
theorem d_Mi_spellTrial_2 : decode b_Mi_spellTrial 2 = .ok (.iload_n 2, 1) := by decide +kernel
theorem d_Mi_spellTrial_3 : decode b_Mi_spellTrial 3 = .ok (.iconst 4, 1) := by decide +kernel
theorem d_Mi_spellTrial_4 : decode b_Mi_spellTrial 4 = .ok (.invokestatic 59, 3) := by decide +kernel
theorem d_Mi_spellTrial_7 : decode b_Mi_spellTrial 7 = .ok (.iconst 1, 1) := by decide +kernel
theorem d_Mi_spellTrial_8 : decode b_Mi_spellTrial 8 = .ok (.isub, 1) := by decide +kernel
theorem d_Mi_spellTrial_9 : decode b_Mi_spellTrial 9 = .ok (.istore 4, 2) := by decide +kernel
theorem d_Mi_spellTrial_11 : decode b_Mi_spellTrial 11 = .ok (.iload 4, 2) := by decide +kernel
theorem d_Mi_spellTrial_13 : decode b_Mi_spellTrial 13 = .ok (.ifCond .lt 41, 3) := by decide +kernel
theorem d_Mi_spellTrial_16 : decode b_Mi_spellTrial 16 = .ok (.aload_n 0, 1) := by decide +kernel
theorem d_Mi_spellTrial_17 : decode b_Mi_spellTrial 17 = .ok (.getfield 30, 3) := by decide +kernel
theorem d_Mi_spellTrial_20 : decode b_Mi_spellTrial 20 = .ok (.ifCond .le 34, 3) := by decide +kernel
theorem d_Mi_spellTrial_23 : decode b_Mi_spellTrial 23 = .ok (.aload_n 0, 1) := by decide +kernel
theorem d_Mi_spellTrial_24 : decode b_Mi_spellTrial 24 = .ok (.getfield 19, 3) := by decide +kernel
theorem d_Mi_spellTrial_27 : decode b_Mi_spellTrial 27 = .ok (.iload 4, 2) := by decide +kernel
theorem d_Mi_spellTrial_29 : decode b_Mi_spellTrial 29 = .ok (.aload_n 0, 1) := by decide +kernel
theorem d_Mi_spellTrial_30 : decode b_Mi_spellTrial 30 = .ok (.getfield 27, 3) := by decide +kernel
theorem d_Mi_spellTrial_33 : decode b_Mi_spellTrial 33 = .ok (.iload_n 3, 1) := by decide +kernel
theorem d_Mi_spellTrial_34 : decode b_Mi_spellTrial 34 = .ok (.aload_n 0, 1) := by decide +kernel
theorem d_Mi_spellTrial_35 : decode b_Mi_spellTrial 35 = .ok (.getfield 30, 3) := by decide +kernel
theorem d_Mi_spellTrial_38 : decode b_Mi_spellTrial 38 = .ok (.irem, 1) := by decide +kernel
theorem d_Mi_spellTrial_39 : decode b_Mi_spellTrial 39 = .ok (.iaload, 1) := by decide +kernel
theorem d_Mi_spellTrial_40 : decode b_Mi_spellTrial 40 = .ok (.iastore, 1) := by decide +kernel
theorem d_Mi_spellTrial_41 : decode b_Mi_spellTrial 41 = .ok (.iload_n 3, 1) := by decide +kernel
theorem d_Mi_spellTrial_42 : decode b_Mi_spellTrial 42 = .ok (.aload_n 0, 1) := by decide +kernel
theorem d_Mi_spellTrial_43 : decode b_Mi_spellTrial 43 = .ok (.getfield 30, 3) := by decide +kernel
theorem d_Mi_spellTrial_46 : decode b_Mi_spellTrial 46 = .ok (.idiv, 1) := by decide +kernel
theorem d_Mi_spellTrial_47 : decode b_Mi_spellTrial 47 = .ok (.istore_n 3, 1) := by decide +kernel
theorem d_Mi_spellTrial_48 : decode b_Mi_spellTrial 48 = .ok (.iinc 4 (-1), 3) := by decide +kernel
theorem d_Mi_spellTrial_51 : decode b_Mi_spellTrial 51 = .ok (.goto (-40), 3) := by decide +kernel
theorem d_Mi_spellTrial_54 : decode b_Mi_spellTrial 54 = .ok (.return_, 1) := by decide +kernel
theorem d_Mi_spreadOfTrial_0 : decode b_Mi_spreadOfTrial 0 = .ok (.aload_n 0, 1) := by decide +kernel
theorem d_Mi_spreadOfTrial_1 : decode b_Mi_spreadOfTrial 1 = .ok (.iconst 0, 1) := by decide +kernel
theorem d_Mi_spreadOfTrial_2 : decode b_Mi_spreadOfTrial 2 = .ok (.iload_n 1, 1) := by decide +kernel
theorem d_Mi_spreadOfTrial_3 : decode b_Mi_spreadOfTrial 3 = .ok (.invokevirtual 65, 3) := by decide +kernel
theorem d_Mi_spreadOfTrial_6 : decode b_Mi_spreadOfTrial 6 = .ok (.istore_n 2, 1) := by decide +kernel
theorem d_Mi_spreadOfTrial_7 : decode b_Mi_spreadOfTrial 7 = .ok (.iload_n 2, 1) := by decide +kernel
theorem d_Mi_spreadOfTrial_8 : decode b_Mi_spreadOfTrial 8 = .ok (.istore_n 3, 1) := by decide +kernel
theorem d_Mi_spreadOfTrial_9 : decode b_Mi_spreadOfTrial 9 = .ok (.iconst 1, 1) := by decide +kernel
theorem d_Mi_spreadOfTrial_10 : decode b_Mi_spreadOfTrial 10 = .ok (.istore 4, 2) := by decide +kernel
theorem d_Mi_spreadOfTrial_12 : decode b_Mi_spreadOfTrial 12 = .ok (.iload 4, 2) := by decide +kernel
theorem d_Mi_spreadOfTrial_14 : decode b_Mi_spreadOfTrial 14 = .ok (.iconst 4, 1) := by decide +kernel
theorem d_Mi_spreadOfTrial_15 : decode b_Mi_spreadOfTrial 15 = .ok (.if_icmp .ge 32, 3) := by decide +kernel
theorem d_Mi_spreadOfTrial_18 : decode b_Mi_spreadOfTrial 18 = .ok (.aload_n 0, 1) := by decide +kernel
theorem d_Mi_spreadOfTrial_19 : decode b_Mi_spreadOfTrial 19 = .ok (.iload 4, 2) := by decide +kernel
theorem d_Mi_spreadOfTrial_21 : decode b_Mi_spreadOfTrial 21 = .ok (.iload_n 1, 1) := by decide +kernel
theorem d_Mi_spreadOfTrial_22 : decode b_Mi_spreadOfTrial 22 = .ok (.invokevirtual 65, 3) := by decide +kernel
theorem d_Mi_spreadOfTrial_25 : decode b_Mi_spreadOfTrial 25 = .ok (.istore 5, 2) := by decide +kernel
theorem d_Mi_spreadOfTrial_27 : decode b_Mi_spreadOfTrial 27 = .ok (.iload_n 2, 1) := by decide +kernel
theorem d_Mi_spreadOfTrial_28 : decode b_Mi_spreadOfTrial 28 = .ok (.iload 5, 2) := by decide +kernel
theorem d_Mi_spreadOfTrial_30 : decode b_Mi_spreadOfTrial 30 = .ok (.invokestatic 68, 3) := by decide +kernel
theorem d_Mi_spreadOfTrial_33 : decode b_Mi_spreadOfTrial 33 = .ok (.istore_n 2, 1) := by decide +kernel
theorem d_Mi_spreadOfTrial_34 : decode b_Mi_spreadOfTrial 34 = .ok (.iload_n 3, 1) := by decide +kernel
theorem d_Mi_spreadOfTrial_35 : decode b_Mi_spreadOfTrial 35 = .ok (.iload 5, 2) := by decide +kernel
theorem d_Mi_spreadOfTrial_37 : decode b_Mi_spreadOfTrial 37 = .ok (.invokestatic 59, 3) := by decide +kernel
theorem d_Mi_spreadOfTrial_40 : decode b_Mi_spreadOfTrial 40 = .ok (.istore_n 3, 1) := by decide +kernel
theorem d_Mi_spreadOfTrial_41 : decode b_Mi_spreadOfTrial 41 = .ok (.iinc 4 1, 3) := by decide +kernel
theorem d_Mi_spreadOfTrial_44 : decode b_Mi_spreadOfTrial 44 = .ok (.goto (-32), 3) := by decide +kernel
theorem d_Mi_spreadOfTrial_47 : decode b_Mi_spreadOfTrial 47 = .ok (.iload_n 2, 1) := by decide +kernel
theorem d_Mi_spreadOfTrial_48 : decode b_Mi_spreadOfTrial 48 = .ok (.iload_n 3, 1) := by decide +kernel
theorem d_Mi_spreadOfTrial_49 : decode b_Mi_spreadOfTrial 49 = .ok (.isub, 1) := by decide +kernel
theorem d_Mi_spreadOfTrial_50 : decode b_Mi_spreadOfTrial 50 = .ok (.ireturn, 1) := by decide +kernel
theorem d_Mi_sumOfTrial_0 : decode b_Mi_sumOfTrial 0 = .ok (.iconst 0, 1) := by decide +kernel
theorem d_Mi_sumOfTrial_1 : decode b_Mi_sumOfTrial 1 = .ok (.istore_n 3, 1) := by decide +kernel
theorem d_Mi_sumOfTrial_2 : decode b_Mi_sumOfTrial 2 = .ok (.iconst 0, 1) := by decide +kernel
theorem d_Mi_sumOfTrial_3 : decode b_Mi_sumOfTrial 3 = .ok (.istore 4, 2) := by decide +kernel
theorem d_Mi_sumOfTrial_5 : decode b_Mi_sumOfTrial 5 = .ok (.iload 4, 2) := by decide +kernel
theorem d_Mi_sumOfTrial_7 : decode b_Mi_sumOfTrial 7 = .ok (.iload_n 2, 1) := by decide +kernel
theorem d_Mi_sumOfTrial_8 : decode b_Mi_sumOfTrial 8 = .ok (.if_icmp .ge 32, 3) := by decide +kernel
theorem d_Mi_sumOfTrial_11 : decode b_Mi_sumOfTrial 11 = .ok (.iload 4, 2) := by decide +kernel
theorem d_Mi_sumOfTrial_13 : decode b_Mi_sumOfTrial 13 = .ok (.iconst 4, 1) := by decide +kernel
theorem d_Mi_sumOfTrial_14 : decode b_Mi_sumOfTrial 14 = .ok (.if_icmp .ge 26, 3) := by decide +kernel
theorem d_Mi_sumOfTrial_17 : decode b_Mi_sumOfTrial 17 = .ok (.iload_n 3, 1) := by decide +kernel
theorem d_Mi_sumOfTrial_18 : decode b_Mi_sumOfTrial 18 = .ok (.aload_n 0, 1) := by decide +kernel
theorem d_Mi_sumOfTrial_19 : decode b_Mi_sumOfTrial 19 = .ok (.getfield 24, 3) := by decide +kernel
theorem d_Mi_sumOfTrial_22 : decode b_Mi_sumOfTrial 22 = .ok (.aload_n 0, 1) := by decide +kernel
theorem d_Mi_sumOfTrial_23 : decode b_Mi_sumOfTrial 23 = .ok (.getfield 19, 3) := by decide +kernel
theorem d_Mi_sumOfTrial_26 : decode b_Mi_sumOfTrial 26 = .ok (.iload 4, 2) := by decide +kernel
theorem d_Mi_sumOfTrial_28 : decode b_Mi_sumOfTrial 28 = .ok (.iaload, 1) := by decide +kernel
theorem d_Mi_sumOfTrial_29 : decode b_Mi_sumOfTrial 29 = .ok (.aaload, 1) := by decide +kernel
theorem d_Mi_sumOfTrial_30 : decode b_Mi_sumOfTrial 30 = .ok (.iload_n 1, 1) := by decide +kernel
theorem d_Mi_sumOfTrial_31 : decode b_Mi_sumOfTrial 31 = .ok (.iaload, 1) := by decide +kernel
theorem d_Mi_sumOfTrial_32 : decode b_Mi_sumOfTrial 32 = .ok (.iadd, 1) := by decide +kernel
theorem d_Mi_sumOfTrial_33 : decode b_Mi_sumOfTrial 33 = .ok (.istore_n 3, 1) := by decide +kernel
theorem d_Mi_sumOfTrial_34 : decode b_Mi_sumOfTrial 34 = .ok (.iinc 4 1, 3) := by decide +kernel
theorem d_Mi_sumOfTrial_37 : decode b_Mi_sumOfTrial 37 = .ok (.goto (-32), 3) := by decide +kernel
theorem d_Mi_sumOfTrial_40 : decode b_Mi_sumOfTrial 40 = .ok (.iload_n 3, 1) := by decide +kernel
theorem d_Mi_sumOfTrial_41 : decode b_Mi_sumOfTrial 41 = .ok (.ireturn, 1) := by decide +kernel
theorem d_Mi_keepTrial_0 : decode b_Mi_keepTrial 0 = .ok (.aload_n 0, 1) := by decide +kernel
theorem d_Mi_keepTrial_1 : decode b_Mi_keepTrial 1 = .ok (.iload_n 1, 1) := by decide +kernel
theorem d_Mi_keepTrial_2 : decode b_Mi_keepTrial 2 = .ok (.iconst 4, 1) := by decide +kernel
theorem d_Mi_keepTrial_3 : decode b_Mi_keepTrial 3 = .ok (.invokestatic 59, 3) := by decide +kernel
theorem d_Mi_keepTrial_6 : decode b_Mi_keepTrial 6 = .ok (.putfield 15, 3) := by decide +kernel
theorem d_Mi_keepTrial_9 : decode b_Mi_keepTrial 9 = .ok (.iconst 0, 1) := by decide +kernel
theorem d_Mi_keepTrial_10 : decode b_Mi_keepTrial 10 = .ok (.istore_n 2, 1) := by decide +kernel
theorem d_Mi_keepTrial_11 : decode b_Mi_keepTrial 11 = .ok (.iload_n 2, 1) := by decide +kernel
theorem d_Mi_keepTrial_12 : decode b_Mi_keepTrial 12 = .ok (.aload_n 0, 1) := by decide +kernel
theorem d_Mi_keepTrial_13 : decode b_Mi_keepTrial 13 = .ok (.getfield 15, 3) := by decide +kernel
theorem d_Mi_keepTrial_16 : decode b_Mi_keepTrial 16 = .ok (.if_icmp .ge 21, 3) := by decide +kernel
theorem d_Mi_keepTrial_19 : decode b_Mi_keepTrial 19 = .ok (.aload_n 0, 1) := by decide +kernel
theorem d_Mi_keepTrial_20 : decode b_Mi_keepTrial 20 = .ok (.getfield 9, 3) := by decide +kernel
theorem d_Mi_keepTrial_23 : decode b_Mi_keepTrial 23 = .ok (.iload_n 2, 1) := by decide +kernel
theorem d_Mi_keepTrial_24 : decode b_Mi_keepTrial 24 = .ok (.aload_n 0, 1) := by decide +kernel
theorem d_Mi_keepTrial_25 : decode b_Mi_keepTrial 25 = .ok (.getfield 19, 3) := by decide +kernel
theorem d_Mi_keepTrial_28 : decode b_Mi_keepTrial 28 = .ok (.iload_n 2, 1) := by decide +kernel
theorem d_Mi_keepTrial_29 : decode b_Mi_keepTrial 29 = .ok (.iaload, 1) := by decide +kernel
theorem d_Mi_keepTrial_30 : decode b_Mi_keepTrial 30 = .ok (.iastore, 1) := by decide +kernel
theorem d_Mi_keepTrial_31 : decode b_Mi_keepTrial 31 = .ok (.iinc 2 1, 3) := by decide +kernel
theorem d_Mi_keepTrial_34 : decode b_Mi_keepTrial 34 = .ok (.goto (-23), 3) := by decide +kernel
theorem d_Mi_keepTrial_37 : decode b_Mi_keepTrial 37 = .ok (.return_, 1) := by decide +kernel
theorem d_Zo_init_0 : decode b_Zo_init 0 = .ok (.aload_n 0, 1) := by decide +kernel
theorem d_Zo_init_1 : decode b_Zo_init 1 = .ok (.invokespecial 3, 3) := by decide +kernel
theorem d_Zo_init_4 : decode b_Zo_init 4 = .ok (.aload_n 0, 1) := by decide +kernel
theorem d_Zo_init_5 : decode b_Zo_init 5 = .ok (.lconst 0, 1) := by decide +kernel
theorem d_Zo_init_6 : decode b_Zo_init 6 = .ok (.putfield 9, 3) := by decide +kernel
theorem d_Zo_init_9 : decode b_Zo_init 9 = .ok (.aload_n 0, 1) := by decide +kernel
theorem d_Zo_init_10 : decode b_Zo_init 10 = .ok (.lconst 0, 1) := by decide +kernel
theorem d_Zo_init_11 : decode b_Zo_init 11 = .ok (.putfield 15, 3) := by decide +kernel
theorem d_Zo_init_14 : decode b_Zo_init 14 = .ok (.aload_n 0, 1) := by decide +kernel
theorem d_Zo_init_15 : decode b_Zo_init 15 = .ok (.lconst 0, 1) := by decide +kernel
theorem d_Zo_init_16 : decode b_Zo_init 16 = .ok (.putfield 18, 3) := by decide +kernel
theorem d_Zo_init_19 : decode b_Zo_init 19 = .ok (.aload_n 0, 1) := by decide +kernel
theorem d_Zo_init_20 : decode b_Zo_init 20 = .ok (.iconst 0, 1) := by decide +kernel
theorem d_Zo_init_21 : decode b_Zo_init 21 = .ok (.putfield 21, 3) := by decide +kernel
theorem d_Zo_init_24 : decode b_Zo_init 24 = .ok (.aload_n 0, 1) := by decide +kernel
theorem d_Zo_init_25 : decode b_Zo_init 25 = .ok (.sipush 200, 3) := by decide +kernel
theorem d_Zo_init_28 : decode b_Zo_init 28 = .ok (.putfield 25, 3) := by decide +kernel
theorem d_Zo_init_31 : decode b_Zo_init 31 = .ok (.return_, 1) := by decide +kernel
theorem d_Zo_add_0 : decode b_Zo_add 0 = .ok (.aload_n 0, 1) := by decide +kernel
theorem d_Zo_add_1 : decode b_Zo_add 1 = .ok (.dup, 1) := by decide +kernel
theorem d_Zo_add_2 : decode b_Zo_add 2 = .ok (.getfield 9, 3) := by decide +kernel
theorem d_Zo_add_5 : decode b_Zo_add 5 = .ok (.lload_n 1, 1) := by decide +kernel
theorem d_Zo_add_6 : decode b_Zo_add 6 = .ok (.ladd, 1) := by decide +kernel
theorem d_Zo_add_7 : decode b_Zo_add 7 = .ok (.putfield 9, 3) := by decide +kernel
theorem d_Zo_add_10 : decode b_Zo_add 10 = .ok (.aload_n 0, 1) := by decide +kernel
theorem d_Zo_add_11 : decode b_Zo_add 11 = .ok (.dup, 1) := by decide +kernel
theorem d_Zo_add_12 : decode b_Zo_add 12 = .ok (.getfield 15, 3) := by decide +kernel
theorem d_Zo_add_15 : decode b_Zo_add 15 = .ok (.lload_n 3, 1) := by decide +kernel
theorem d_Zo_add_16 : decode b_Zo_add 16 = .ok (.ladd, 1) := by decide +kernel
theorem d_Zo_add_17 : decode b_Zo_add 17 = .ok (.putfield 15, 3) := by decide +kernel
theorem d_Zo_add_20 : decode b_Zo_add 20 = .ok (.aload_n 0, 1) := by decide +kernel
theorem d_Zo_add_21 : decode b_Zo_add 21 = .ok (.dup, 1) := by decide +kernel
theorem d_Zo_add_22 : decode b_Zo_add 22 = .ok (.getfield 18, 3) := by decide +kernel
theorem d_Zo_add_25 : decode b_Zo_add 25 = .ok (.lload 5, 2) := by decide +kernel
theorem d_Zo_add_27 : decode b_Zo_add 27 = .ok (.ladd, 1) := by decide +kernel
theorem d_Zo_add_28 : decode b_Zo_add 28 = .ok (.putfield 18, 3) := by decide +kernel
theorem d_Zo_add_31 : decode b_Zo_add 31 = .ok (.return_, 1) := by decide +kernel
theorem d_Zo_dry_0 : decode b_Zo_dry 0 = .ok (.aload_n 0, 1) := by decide +kernel
theorem d_Zo_dry_1 : decode b_Zo_dry 1 = .ok (.getfield 9, 3) := by decide +kernel
theorem d_Zo_dry_4 : decode b_Zo_dry 4 = .ok (.aload_n 0, 1) := by decide +kernel
theorem d_Zo_dry_5 : decode b_Zo_dry 5 = .ok (.getfield 25, 3) := by decide +kernel
theorem d_Zo_dry_8 : decode b_Zo_dry 8 = .ok (.invokestatic 28, 3) := by decide +kernel
theorem d_Zo_dry_11 : decode b_Zo_dry 11 = .ok (.aload_n 1, 1) := by decide +kernel
theorem d_Zo_dry_12 : decode b_Zo_dry 12 = .ok (.getfield 32, 3) := by decide +kernel
theorem d_Zo_dry_15 : decode b_Zo_dry 15 = .ok (.ldc2_w 37, 3) := by decide +kernel
theorem d_Zo_dry_18 : decode b_Zo_dry 18 = .ok (.ldiv, 1) := by decide +kernel
theorem d_Zo_dry_19 : decode b_Zo_dry 19 = .ok (.invokestatic 39, 3) := by decide +kernel
theorem d_Zo_dry_22 : decode b_Zo_dry 22 = .ok (.lstore_n 2, 1) := by decide +kernel
theorem d_Zo_dry_23 : decode b_Zo_dry 23 = .ok (.aload_n 0, 1) := by decide +kernel
theorem d_Zo_dry_24 : decode b_Zo_dry 24 = .ok (.dup, 1) := by decide +kernel
theorem d_Zo_dry_25 : decode b_Zo_dry 25 = .ok (.getfield 9, 3) := by decide +kernel
theorem d_Zo_dry_28 : decode b_Zo_dry 28 = .ok (.lload_n 2, 1) := by decide +kernel
theorem d_Zo_dry_29 : decode b_Zo_dry 29 = .ok (.lsub, 1) := by decide +kernel
theorem d_Zo_dry_30 : decode b_Zo_dry 30 = .ok (.putfield 9, 3) := by decide +kernel
theorem d_Zo_dry_33 : decode b_Zo_dry 33 = .ok (.aload_n 1, 1) := by decide +kernel
theorem d_Zo_dry_34 : decode b_Zo_dry 34 = .ok (.lload_n 2, 1) := by decide +kernel
theorem d_Zo_dry_35 : decode b_Zo_dry 35 = .ok (.ldc2_w 37, 3) := by decide +kernel
theorem d_Zo_dry_38 : decode b_Zo_dry 38 = .ok (.lmul, 1) := by decide +kernel
theorem d_Zo_dry_39 : decode b_Zo_dry 39 = .ok (.invokevirtual 45, 3) := by decide +kernel
theorem d_Zo_dry_42 : decode b_Zo_dry 42 = .ok (.lload_n 2, 1) := by decide +kernel
theorem d_Zo_dry_43 : decode b_Zo_dry 43 = .ok (.lreturn, 1) := by decide +kernel
theorem d_Zo_burn_0 : decode b_Zo_burn 0 = .ok (.aload_n 0, 1) := by decide +kernel
theorem d_Zo_burn_1 : decode b_Zo_burn 1 = .ok (.getfield 9, 3) := by decide +kernel
theorem d_Zo_burn_4 : decode b_Zo_burn 4 = .ok (.aload_n 0, 1) := by decide +kernel
theorem d_Zo_burn_5 : decode b_Zo_burn 5 = .ok (.getfield 15, 3) := by decide +kernel
theorem d_Zo_burn_8 : decode b_Zo_burn 8 = .ok (.lcmp, 1) := by decide +kernel
theorem d_Zo_burn_9 : decode b_Zo_burn 9 = .ok (.ifCond .le 5, 3) := by decide +kernel
theorem d_Zo_burn_12 : decode b_Zo_burn 12 = .ok (.lconst 0, 1) := by decide +kernel
theorem d_Zo_burn_13 : decode b_Zo_burn 13 = .ok (.lreturn, 1) := by decide +kernel
theorem d_Zo_burn_14 : decode b_Zo_burn 14 = .ok (.aload_n 0, 1) := by decide +kernel
theorem d_Zo_burn_15 : decode b_Zo_burn 15 = .ok (.getfield 15, 3) := by decide +kernel
theorem d_Zo_burn_18 : decode b_Zo_burn 18 = .ok (.aload_n 0, 1) := by decide +kernel
theorem d_Zo_burn_19 : decode b_Zo_burn 19 = .ok (.getfield 21, 3) := by decide +kernel
theorem d_Zo_burn_22 : decode b_Zo_burn 22 = .ok (.bipush 6, 2) := by decide +kernel
theorem d_Zo_burn_24 : decode b_Zo_burn 24 = .ok (.idiv, 1) := by decide +kernel
theorem d_Zo_burn_25 : decode b_Zo_burn 25 = .ok (.i2l, 1) := by decide +kernel
theorem d_Zo_burn_26 : decode b_Zo_burn 26 = .ok (.invokestatic 39, 3) := by decide +kernel
theorem d_Zo_burn_29 : decode b_Zo_burn 29 = .ok (.lstore_n 2, 1) := by decide +kernel
theorem d_Zo_burn_30 : decode b_Zo_burn 30 = .ok (.lload_n 2, 1) := by decide +kernel
theorem d_Zo_burn_31 : decode b_Zo_burn 31 = .ok (.aload_n 0, 1) := by decide +kernel
theorem d_Zo_burn_32 : decode b_Zo_burn 32 = .ok (.getfield 15, 3) := by decide +kernel
theorem d_Zo_burn_35 : decode b_Zo_burn 35 = .ok (.bipush 50, 2) := by decide +kernel
theorem d_Zo_burn_37 : decode b_Zo_burn 37 = .ok (.invokestatic 28, 3) := by decide +kernel
theorem d_Zo_burn_40 : decode b_Zo_burn 40 = .ok (.lconst 1, 1) := by decide +kernel
theorem d_Zo_burn_41 : decode b_Zo_burn 41 = .ok (.ladd, 1) := by decide +kernel
theorem d_Zo_burn_42 : decode b_Zo_burn 42 = .ok (.invokestatic 39, 3) := by decide +kernel
theorem d_Zo_burn_45 : decode b_Zo_burn 45 = .ok (.lstore 4, 2) := by decide +kernel
theorem d_Zo_burn_47 : decode b_Zo_burn 47 = .ok (.aload_n 0, 1) := by decide +kernel
theorem d_Zo_burn_48 : decode b_Zo_burn 48 = .ok (.dup, 1) := by decide +kernel
theorem d_Zo_burn_49 : decode b_Zo_burn 49 = .ok (.getfield 15, 3) := by decide +kernel
theorem d_Zo_burn_52 : decode b_Zo_burn 52 = .ok (.lload 4, 2) := by decide +kernel
theorem d_Zo_burn_54 : decode b_Zo_burn 54 = .ok (.lsub, 1) := by decide +kernel
theorem d_Zo_burn_55 : decode b_Zo_burn 55 = .ok (.putfield 15, 3) := by decide +kernel
theorem d_Zo_burn_58 : decode b_Zo_burn 58 = .ok (.aload_n 1, 1) := by decide +kernel
theorem d_Zo_burn_59 : decode b_Zo_burn 59 = .ok (.lload 4, 2) := by decide +kernel
theorem d_Zo_burn_61 : decode b_Zo_burn 61 = .ok (.ldc2_w 49, 3) := by decide +kernel
theorem d_Zo_burn_64 : decode b_Zo_burn 64 = .ok (.lmul, 1) := by decide +kernel
theorem d_Zo_burn_65 : decode b_Zo_burn 65 = .ok (.invokevirtual 51, 3) := by decide +kernel
theorem d_Zo_burn_68 : decode b_Zo_burn 68 = .ok (.lload 4, 2) := by decide +kernel
theorem d_Zo_burn_70 : decode b_Zo_burn 70 = .ok (.lreturn, 1) := by decide +kernel
theorem d_Law_cell_0 : decode b_Law_cell 0 = .ok (.iload_n 1, 1) := by decide +kernel
theorem d_Law_cell_1 : decode b_Law_cell 1 = .ok (.aload_n 0, 1) := by decide +kernel
theorem d_Law_cell_2 : decode b_Law_cell 2 = .ok (.arraylength, 1) := by decide +kernel
theorem d_Law_cell_3 : decode b_Law_cell 3 = .ok (.if_icmp .ge 9, 3) := by decide +kernel
theorem d_Law_cell_6 : decode b_Law_cell 6 = .ok (.aload_n 0, 1) := by decide +kernel
theorem d_Law_cell_7 : decode b_Law_cell 7 = .ok (.iload_n 1, 1) := by decide +kernel
theorem d_Law_cell_8 : decode b_Law_cell 8 = .ok (.iaload, 1) := by decide +kernel
theorem d_Law_cell_9 : decode b_Law_cell 9 = .ok (.goto 4, 3) := by decide +kernel
theorem d_Law_cell_12 : decode b_Law_cell 12 = .ok (.iconst 0, 1) := by decide +kernel
theorem d_Law_cell_13 : decode b_Law_cell 13 = .ok (.ireturn, 1) := by decide +kernel
theorem d_Ob_init_0 : decode b_Ob_init 0 = .ok (.return_, 1) := by decide +kernel
theorem d_Ma_floorDiv_0 : decode b_Ma_floorDiv 0 = .ok (.lload_n 0, 1) := by decide +kernel
theorem d_Ma_floorDiv_1 : decode b_Ma_floorDiv 1 = .ok (.lload_n 2, 1) := by decide +kernel
theorem d_Ma_floorDiv_2 : decode b_Ma_floorDiv 2 = .ok (.ldiv, 1) := by decide +kernel
theorem d_Ma_floorDiv_3 : decode b_Ma_floorDiv 3 = .ok (.lstore 4, 2) := by decide +kernel
theorem d_Ma_floorDiv_5 : decode b_Ma_floorDiv 5 = .ok (.lload_n 0, 1) := by decide +kernel
theorem d_Ma_floorDiv_6 : decode b_Ma_floorDiv 6 = .ok (.lload_n 2, 1) := by decide +kernel
theorem d_Ma_floorDiv_7 : decode b_Ma_floorDiv 7 = .ok (.lxor, 1) := by decide +kernel
theorem d_Ma_floorDiv_8 : decode b_Ma_floorDiv 8 = .ok (.lconst 0, 1) := by decide +kernel
theorem d_Ma_floorDiv_9 : decode b_Ma_floorDiv 9 = .ok (.lcmp, 1) := by decide +kernel
theorem d_Ma_floorDiv_10 : decode b_Ma_floorDiv 10 = .ok (.ifCond .ge 17, 3) := by decide +kernel
theorem d_Ma_floorDiv_13 : decode b_Ma_floorDiv 13 = .ok (.lload 4, 2) := by decide +kernel
theorem d_Ma_floorDiv_15 : decode b_Ma_floorDiv 15 = .ok (.lload_n 2, 1) := by decide +kernel
theorem d_Ma_floorDiv_16 : decode b_Ma_floorDiv 16 = .ok (.lmul, 1) := by decide +kernel
theorem d_Ma_floorDiv_17 : decode b_Ma_floorDiv 17 = .ok (.lload_n 0, 1) := by decide +kernel
theorem d_Ma_floorDiv_18 : decode b_Ma_floorDiv 18 = .ok (.lcmp, 1) := by decide +kernel
theorem d_Ma_floorDiv_19 : decode b_Ma_floorDiv 19 = .ok (.ifCond .eq 8, 3) := by decide +kernel
theorem d_Ma_floorDiv_22 : decode b_Ma_floorDiv 22 = .ok (.lload 4, 2) := by decide +kernel
theorem d_Ma_floorDiv_24 : decode b_Ma_floorDiv 24 = .ok (.lconst 1, 1) := by decide +kernel
theorem d_Ma_floorDiv_25 : decode b_Ma_floorDiv 25 = .ok (.lsub, 1) := by decide +kernel
theorem d_Ma_floorDiv_26 : decode b_Ma_floorDiv 26 = .ok (.lreturn, 1) := by decide +kernel
theorem d_Ma_floorDiv_27 : decode b_Ma_floorDiv 27 = .ok (.lload 4, 2) := by decide +kernel
theorem d_Ma_floorDiv_29 : decode b_Ma_floorDiv 29 = .ok (.lreturn, 1) := by decide +kernel
theorem d_Ma_maxIII_0 : decode b_Ma_maxIII 0 = .ok (.iload_n 0, 1) := by decide +kernel
theorem d_Ma_maxIII_1 : decode b_Ma_maxIII 1 = .ok (.iload_n 1, 1) := by decide +kernel
theorem d_Ma_maxIII_2 : decode b_Ma_maxIII 2 = .ok (.if_icmp .lt 7, 3) := by decide +kernel
theorem d_Ma_maxIII_5 : decode b_Ma_maxIII 5 = .ok (.iload_n 0, 1) := by decide +kernel
theorem d_Ma_maxIII_6 : decode b_Ma_maxIII 6 = .ok (.goto 4, 3) := by decide +kernel
theorem d_Ma_maxIII_9 : decode b_Ma_maxIII 9 = .ok (.iload_n 1, 1) := by decide +kernel
theorem d_Ma_maxIII_10 : decode b_Ma_maxIII 10 = .ok (.ireturn, 1) := by decide +kernel
theorem d_Ma_maxJJJ_0 : decode b_Ma_maxJJJ 0 = .ok (.lload_n 0, 1) := by decide +kernel
theorem d_Ma_maxJJJ_1 : decode b_Ma_maxJJJ 1 = .ok (.lload_n 2, 1) := by decide +kernel
theorem d_Ma_maxJJJ_2 : decode b_Ma_maxJJJ 2 = .ok (.lcmp, 1) := by decide +kernel
theorem d_Ma_maxJJJ_3 : decode b_Ma_maxJJJ 3 = .ok (.ifCond .lt 7, 3) := by decide +kernel
theorem d_Ma_maxJJJ_6 : decode b_Ma_maxJJJ 6 = .ok (.lload_n 0, 1) := by decide +kernel
theorem d_Ma_maxJJJ_7 : decode b_Ma_maxJJJ 7 = .ok (.goto 4, 3) := by decide +kernel
theorem d_Ma_maxJJJ_10 : decode b_Ma_maxJJJ 10 = .ok (.lload_n 2, 1) := by decide +kernel
theorem d_Ma_maxJJJ_11 : decode b_Ma_maxJJJ 11 = .ok (.lreturn, 1) := by decide +kernel
theorem d_Ma_minIII_0 : decode b_Ma_minIII 0 = .ok (.iload_n 0, 1) := by decide +kernel
theorem d_Ma_minIII_1 : decode b_Ma_minIII 1 = .ok (.iload_n 1, 1) := by decide +kernel
theorem d_Ma_minIII_2 : decode b_Ma_minIII 2 = .ok (.if_icmp .gt 7, 3) := by decide +kernel
theorem d_Ma_minIII_5 : decode b_Ma_minIII 5 = .ok (.iload_n 0, 1) := by decide +kernel
theorem d_Ma_minIII_6 : decode b_Ma_minIII 6 = .ok (.goto 4, 3) := by decide +kernel
theorem d_Ma_minIII_9 : decode b_Ma_minIII 9 = .ok (.iload_n 1, 1) := by decide +kernel
theorem d_Ma_minIII_10 : decode b_Ma_minIII 10 = .ok (.ireturn, 1) := by decide +kernel
theorem d_Ma_minJJJ_0 : decode b_Ma_minJJJ 0 = .ok (.lload_n 0, 1) := by decide +kernel
theorem d_Ma_minJJJ_1 : decode b_Ma_minJJJ 1 = .ok (.lload_n 2, 1) := by decide +kernel
theorem d_Ma_minJJJ_2 : decode b_Ma_minJJJ 2 = .ok (.lcmp, 1) := by decide +kernel
theorem d_Ma_minJJJ_3 : decode b_Ma_minJJJ 3 = .ok (.ifCond .gt 7, 3) := by decide +kernel
theorem d_Ma_minJJJ_6 : decode b_Ma_minJJJ 6 = .ok (.lload_n 0, 1) := by decide +kernel
theorem d_Ma_minJJJ_7 : decode b_Ma_minJJJ 7 = .ok (.goto 4, 3) := by decide +kernel
theorem d_Ma_minJJJ_10 : decode b_Ma_minJJJ 10 = .ok (.lload_n 2, 1) := by decide +kernel
theorem d_Ma_minJJJ_11 : decode b_Ma_minJJJ 11 = .ok (.lreturn, 1) := by decide +kernel
