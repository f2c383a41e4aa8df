theorem d_GL_init_0 : decode b_GL_init 0 = .ok (.aload_n 0, 1) := by decide +kernel
theorem d_GL_init_1 : decode b_GL_init 1 = .ok (.invokespecial 1, 3) := by decide +kernel
theorem d_GL_init_4 : decode b_GL_init 4 = .ok (.aload_n 0, 1) := by decide +kernel
theorem d_GL_init_5 : decode b_GL_init 5 = .ok (.iconst 4, 1) := by decide +kernel
theorem d_GL_init_6 : decode b_GL_init 6 = .ok (.anewarray 9, 3) := by decide +kernel
theorem d_GL_init_9 : decode b_GL_init 9 = .ok (.putfield 11, 3) := by decide +kernel
theorem d_GL_init_12 : decode b_GL_init 12 = .ok (.aload_n 0, 1) := by decide +kernel
theorem d_GL_init_13 : decode b_GL_init 13 = .ok (.bipush 6, 2) := by decide +kernel
theorem d_GL_init_15 : decode b_GL_init 15 = .ok (.anewarray 15, 3) := by decide +kernel
theorem d_GL_init_18 : decode b_GL_init 18 = .ok (.putfield 17, 3) := by decide +kernel
theorem d_GL_init_21 : decode b_GL_init 21 = .ok (.aload_n 0, 1) := by decide +kernel
theorem d_GL_init_22 : decode b_GL_init 22 = .ok (.new 21, 3) := by decide +kernel
theorem d_GL_init_25 : decode b_GL_init 25 = .ok (.dup, 1) := by decide +kernel
theorem d_GL_init_26 : decode b_GL_init 26 = .ok (.invokespecial 23, 3) := by decide +kernel
theorem d_GL_init_29 : decode b_GL_init 29 = .ok (.putfield 24, 3) := by decide +kernel
theorem d_GL_init_32 : decode b_GL_init 32 = .ok (.aload_n 0, 1) := by decide +kernel
theorem d_GL_init_33 : decode b_GL_init 33 = .ok (.iconst 2, 1) := by decide +kernel
theorem d_GL_init_34 : decode b_GL_init 34 = .ok (.anewarray 28, 3) := by decide +kernel
theorem d_GL_init_37 : decode b_GL_init 37 = .ok (.putfield 30, 3) := by decide +kernel
theorem d_GL_init_40 : decode b_GL_init 40 = .ok (.aload_n 0, 1) := by decide +kernel
theorem d_GL_init_41 : decode b_GL_init 41 = .ok (.new 34, 3) := by decide +kernel
theorem d_GL_init_44 : decode b_GL_init 44 = .ok (.dup, 1) := by decide +kernel
theorem d_GL_init_45 : decode b_GL_init 45 = .ok (.invokespecial 36, 3) := by decide +kernel
theorem d_GL_init_48 : decode b_GL_init 48 = .ok (.putfield 37, 3) := by decide +kernel
theorem d_GL_init_51 : decode b_GL_init 51 = .ok (.aload_n 0, 1) := by decide +kernel
theorem d_GL_init_52 : decode b_GL_init 52 = .ok (.sipush 1000, 3) := by decide +kernel
theorem d_GL_init_55 : decode b_GL_init 55 = .ok (.putfield 41, 3) := by decide +kernel
theorem d_GL_init_58 : decode b_GL_init 58 = .ok (.aload_n 0, 1) := by decide +kernel
theorem d_GL_init_59 : decode b_GL_init 59 = .ok (.iconst 0, 1) := by decide +kernel
theorem d_GL_init_60 : decode b_GL_init 60 = .ok (.putfield 45, 3) := by decide +kernel
theorem d_GL_init_63 : decode b_GL_init 63 = .ok (.aload_n 0, 1) := by decide +kernel
theorem d_GL_init_64 : decode b_GL_init 64 = .ok (.lconst 0, 1) := by decide +kernel
theorem d_GL_init_65 : decode b_GL_init 65 = .ok (.putfield 48, 3) := by decide +kernel
theorem d_GL_init_68 : decode b_GL_init 68 = .ok (.aload_n 0, 1) := by decide +kernel
theorem d_GL_init_69 : decode b_GL_init 69 = .ok (.new 52, 3) := by decide +kernel
theorem d_GL_init_72 : decode b_GL_init 72 = .ok (.dup, 1) := by decide +kernel
theorem d_GL_init_73 : decode b_GL_init 73 = .ok (.iload_n 1, 1) := by decide +kernel
theorem d_GL_init_74 : decode b_GL_init 74 = .ok (.invokespecial 54, 3) := by decide +kernel
theorem d_GL_init_77 : decode b_GL_init 77 = .ok (.putfield 57, 3) := by decide +kernel
theorem d_GL_init_80 : decode b_GL_init 80 = .ok (.iconst 0, 1) := by decide +kernel
theorem d_GL_init_81 : decode b_GL_init 81 = .ok (.istore_n 2, 1) := by decide +kernel
theorem d_GL_init_82 : decode b_GL_init 82 = .ok (.iload_n 2, 1) := by decide +kernel
theorem d_GL_init_83 : decode b_GL_init 83 = .ok (.iconst 4, 1) := by decide +kernel
theorem d_GL_init_84 : decode b_GL_init 84 = .ok (.if_icmp .ge 22, 3) := by decide +kernel
theorem d_GL_init_87 : decode b_GL_init 87 = .ok (.aload_n 0, 1) := by decide +kernel
theorem d_GL_init_88 : decode b_GL_init 88 = .ok (.getfield 11, 3) := by decide +kernel
theorem d_GL_init_91 : decode b_GL_init 91 = .ok (.iload_n 2, 1) := by decide +kernel
theorem d_GL_init_92 : decode b_GL_init 92 = .ok (.new 9, 3) := by decide +kernel
theorem d_GL_init_95 : decode b_GL_init 95 = .ok (.dup, 1) := by decide +kernel
theorem d_GL_init_96 : decode b_GL_init 96 = .ok (.invokespecial 61, 3) := by decide +kernel
theorem d_GL_init_99 : decode b_GL_init 99 = .ok (.aastore, 1) := by decide +kernel
theorem d_GL_init_100 : decode b_GL_init 100 = .ok (.iinc 2 1, 3) := by decide +kernel
theorem d_GL_init_103 : decode b_GL_init 103 = .ok (.goto (-21), 3) := by decide +kernel
theorem d_GL_init_106 : decode b_GL_init 106 = .ok (.iconst 0, 1) := by decide +kernel
theorem d_GL_init_107 : decode b_GL_init 107 = .ok (.istore_n 2, 1) := by decide +kernel
theorem d_GL_init_108 : decode b_GL_init 108 = .ok (.iload_n 2, 1) := by decide +kernel
theorem d_GL_init_109 : decode b_GL_init 109 = .ok (.bipush 6, 2) := by decide +kernel
theorem d_GL_init_111 : decode b_GL_init 111 = .ok (.if_icmp .ge 22, 3) := by decide +kernel
theorem d_GL_init_114 : decode b_GL_init 114 = .ok (.aload_n 0, 1) := by decide +kernel
theorem d_GL_init_115 : decode b_GL_init 115 = .ok (.getfield 17, 3) := by decide +kernel
theorem d_GL_init_118 : decode b_GL_init 118 = .ok (.iload_n 2, 1) := by decide +kernel
theorem d_GL_init_119 : decode b_GL_init 119 = .ok (.new 15, 3) := by decide +kernel
theorem d_GL_init_122 : decode b_GL_init 122 = .ok (.dup, 1) := by decide +kernel
theorem d_GL_init_123 : decode b_GL_init 123 = .ok (.invokespecial 62, 3) := by decide +kernel
theorem d_GL_init_126 : decode b_GL_init 126 = .ok (.aastore, 1) := by decide +kernel
theorem d_GL_init_127 : decode b_GL_init 127 = .ok (.iinc 2 1, 3) := by decide +kernel
theorem d_GL_init_130 : decode b_GL_init 130 = .ok (.goto (-22), 3) := by decide +kernel
theorem d_GL_init_133 : decode b_GL_init 133 = .ok (.iconst 0, 1) := by decide +kernel
theorem d_GL_init_134 : decode b_GL_init 134 = .ok (.istore_n 2, 1) := by decide +kernel
theorem d_GL_init_135 : decode b_GL_init 135 = .ok (.iload_n 2, 1) := by decide +kernel
theorem d_GL_init_136 : decode b_GL_init 136 = .ok (.iconst 2, 1) := by decide +kernel
theorem d_GL_init_137 : decode b_GL_init 137 = .ok (.if_icmp .ge 22, 3) := by decide +kernel
theorem d_GL_init_140 : decode b_GL_init 140 = .ok (.aload_n 0, 1) := by decide +kernel
theorem d_GL_init_141 : decode b_GL_init 141 = .ok (.getfield 30, 3) := by decide +kernel
theorem d_GL_init_144 : decode b_GL_init 144 = .ok (.iload_n 2, 1) := by decide +kernel
theorem d_GL_init_145 : decode b_GL_init 145 = .ok (.new 28, 3) := by decide +kernel
theorem d_GL_init_148 : decode b_GL_init 148 = .ok (.dup, 1) := by decide +kernel
theorem d_GL_init_149 : decode b_GL_init 149 = .ok (.invokespecial 63, 3) := by decide +kernel
theorem d_GL_init_152 : decode b_GL_init 152 = .ok (.aastore, 1) := by decide +kernel
theorem d_GL_init_153 : decode b_GL_init 153 = .ok (.iinc 2 1, 3) := by decide +kernel
theorem d_GL_init_156 : decode b_GL_init 156 = .ok (.goto (-21), 3) := by decide +kernel
theorem d_GL_init_159 : decode b_GL_init 159 = .ok (.return_, 1) := by decide +kernel
theorem d_GL_kind_0 : decode b_GL_kind 0 = .ok (.iload_n 1, 1) := by decide +kernel
theorem d_GL_kind_1 : decode b_GL_kind 1 = .ok (.invokestatic 64, 3) := by decide +kernel
theorem d_GL_kind_4 : decode b_GL_kind 4 = .ok (.ifCond .eq 27, 3) := by decide +kernel
theorem d_GL_kind_7 : decode b_GL_kind 7 = .ok (.iload_n 2, 1) := by decide +kernel
theorem d_GL_kind_8 : decode b_GL_kind 8 = .ok (.iconst 0, 1) := by decide +kernel
theorem d_GL_kind_9 : decode b_GL_kind 9 = .ok (.sipush 1000, 3) := by decide +kernel
theorem d_GL_kind_12 : decode b_GL_kind 12 = .ok (.invokestatic 68, 3) := by decide +kernel
theorem d_GL_kind_15 : decode b_GL_kind 15 = .ok (.ifCond .eq 16, 3) := by decide +kernel
theorem d_GL_kind_18 : decode b_GL_kind 18 = .ok (.iload_n 3, 1) := by decide +kernel
theorem d_GL_kind_19 : decode b_GL_kind 19 = .ok (.iconst 0, 1) := by decide +kernel
theorem d_GL_kind_20 : decode b_GL_kind 20 = .ok (.sipush 1000, 3) := by decide +kernel
theorem d_GL_kind_23 : decode b_GL_kind 23 = .ok (.iload_n 2, 1) := by decide +kernel
theorem d_GL_kind_24 : decode b_GL_kind 24 = .ok (.isub, 1) := by decide +kernel
theorem d_GL_kind_25 : decode b_GL_kind 25 = .ok (.invokestatic 68, 3) := by decide +kernel
theorem d_GL_kind_28 : decode b_GL_kind 28 = .ok (.ifCond .ne 5, 3) := by decide +kernel
theorem d_GL_kind_31 : decode b_GL_kind 31 = .ok (.iconst 0, 1) := by decide +kernel
theorem d_GL_kind_32 : decode b_GL_kind 32 = .ok (.ireturn, 1) := by decide +kernel
theorem d_GL_kind_33 : decode b_GL_kind 33 = .ok (.aload_n 0, 1) := by decide +kernel
theorem d_GL_kind_34 : decode b_GL_kind 34 = .ok (.getfield 11, 3) := by decide +kernel
theorem d_GL_kind_37 : decode b_GL_kind 37 = .ok (.iload_n 1, 1) := by decide +kernel
theorem d_GL_kind_38 : decode b_GL_kind 38 = .ok (.aaload, 1) := by decide +kernel
theorem d_GL_kind_39 : decode b_GL_kind 39 = .ok (.iload_n 2, 1) := by decide +kernel
theorem d_GL_kind_40 : decode b_GL_kind 40 = .ok (.putfield 72, 3) := by decide +kernel
theorem d_GL_kind_43 : decode b_GL_kind 43 = .ok (.aload_n 0, 1) := by decide +kernel
theorem d_GL_kind_44 : decode b_GL_kind 44 = .ok (.getfield 11, 3) := by decide +kernel
theorem d_GL_kind_47 : decode b_GL_kind 47 = .ok (.iload_n 1, 1) := by decide +kernel
theorem d_GL_kind_48 : decode b_GL_kind 48 = .ok (.aaload, 1) := by decide +kernel
theorem d_GL_kind_49 : decode b_GL_kind 49 = .ok (.iload_n 3, 1) := by decide +kernel
theorem d_GL_kind_50 : decode b_GL_kind 50 = .ok (.putfield 75, 3) := by decide +kernel
theorem d_GL_kind_53 : decode b_GL_kind 53 = .ok (.iconst 1, 1) := by decide +kernel
theorem d_GL_kind_54 : decode b_GL_kind 54 = .ok (.ireturn, 1) := by decide +kernel
theorem d_GL_bunker_0 : decode b_GL_bunker 0 = .ok (.iload_n 1, 1) := by decide +kernel
theorem d_GL_bunker_1 : decode b_GL_bunker 1 = .ok (.invokestatic 78, 3) := by decide +kernel
theorem d_GL_bunker_4 : decode b_GL_bunker 4 = .ok (.ifCond .eq 20, 3) := by decide +kernel
theorem d_GL_bunker_7 : decode b_GL_bunker 7 = .ok (.iload_n 2, 1) := by decide +kernel
theorem d_GL_bunker_8 : decode b_GL_bunker 8 = .ok (.invokestatic 64, 3) := by decide +kernel
theorem d_GL_bunker_11 : decode b_GL_bunker 11 = .ok (.ifCond .eq 13, 3) := by decide +kernel
theorem d_GL_bunker_14 : decode b_GL_bunker 14 = .ok (.iload_n 3, 1) := by decide +kernel
theorem d_GL_bunker_15 : decode b_GL_bunker 15 = .ok (.iconst 0, 1) := by decide +kernel
theorem d_GL_bunker_16 : decode b_GL_bunker 16 = .ok (.ldc 81, 2) := by decide +kernel
theorem d_GL_bunker_18 : decode b_GL_bunker 18 = .ok (.invokestatic 68, 3) := by decide +kernel
theorem d_GL_bunker_21 : decode b_GL_bunker 21 = .ok (.ifCond .ne 5, 3) := by decide +kernel
theorem d_GL_bunker_24 : decode b_GL_bunker 24 = .ok (.iconst 0, 1) := by decide +kernel
theorem d_GL_bunker_25 : decode b_GL_bunker 25 = .ok (.ireturn, 1) := by decide +kernel
theorem d_GL_bunker_26 : decode b_GL_bunker 26 = .ok (.aload_n 0, 1) := by decide +kernel
theorem d_GL_bunker_27 : decode b_GL_bunker 27 = .ok (.getfield 17, 3) := by decide +kernel
theorem d_GL_bunker_30 : decode b_GL_bunker 30 = .ok (.iload_n 1, 1) := by decide +kernel
theorem d_GL_bunker_31 : decode b_GL_bunker 31 = .ok (.aaload, 1) := by decide +kernel
theorem d_GL_bunker_32 : decode b_GL_bunker 32 = .ok (.invokevirtual 82, 3) := by decide +kernel
theorem d_GL_bunker_35 : decode b_GL_bunker 35 = .ok (.iload_n 3, 1) := by decide +kernel
theorem d_GL_bunker_36 : decode b_GL_bunker 36 = .ok (.iadd, 1) := by decide +kernel
theorem d_GL_bunker_37 : decode b_GL_bunker 37 = .ok (.ldc 81, 2) := by decide +kernel
theorem d_GL_bunker_39 : decode b_GL_bunker 39 = .ok (.if_icmp .le 5, 3) := by decide +kernel
theorem d_GL_bunker_42 : decode b_GL_bunker 42 = .ok (.iconst 0, 1) := by decide +kernel
theorem d_GL_bunker_43 : decode b_GL_bunker 43 = .ok (.ireturn, 1) := by decide +kernel
theorem d_GL_bunker_44 : decode b_GL_bunker 44 = .ok (.aload_n 0, 1) := by decide +kernel
theorem d_GL_bunker_45 : decode b_GL_bunker 45 = .ok (.getfield 17, 3) := by decide +kernel
theorem d_GL_bunker_48 : decode b_GL_bunker 48 = .ok (.iload_n 1, 1) := by decide +kernel
theorem d_GL_bunker_49 : decode b_GL_bunker 49 = .ok (.aaload, 1) := by decide +kernel
theorem d_GL_bunker_50 : decode b_GL_bunker 50 = .ok (.getfield 86, 3) := by decide +kernel
theorem d_GL_bunker_53 : decode b_GL_bunker 53 = .ok (.iload_n 2, 1) := by decide +kernel
theorem d_GL_bunker_54 : decode b_GL_bunker 54 = .ok (.dup2, 1) := by decide +kernel
theorem d_GL_bunker_55 : decode b_GL_bunker 55 = .ok (.iaload, 1) := by decide +kernel
theorem d_GL_bunker_56 : decode b_GL_bunker 56 = .ok (.iload_n 3, 1) := by decide +kernel
theorem d_GL_bunker_57 : decode b_GL_bunker 57 = .ok (.iadd, 1) := by decide +kernel
theorem d_GL_bunker_58 : decode b_GL_bunker 58 = .ok (.iastore, 1) := by decide +kernel
theorem d_GL_bunker_59 : decode b_GL_bunker 59 = .ok (.aload_n 0, 1) := by decide +kernel
theorem d_GL_bunker_60 : decode b_GL_bunker 60 = .ok (.dup, 1) := by decide +kernel
theorem d_GL_bunker_61 : decode b_GL_bunker 61 = .ok (.getfield 48, 3) := by decide +kernel
theorem d_GL_bunker_64 : decode b_GL_bunker 64 = .ok (.iload_n 3, 1) := by decide +kernel
theorem d_GL_bunker_65 : decode b_GL_bunker 65 = .ok (.i2l, 1) := by decide +kernel
theorem d_GL_bunker_66 : decode b_GL_bunker 66 = .ok (.ladd, 1) := by decide +kernel
theorem d_GL_bunker_67 : decode b_GL_bunker 67 = .ok (.putfield 48, 3) := by decide +kernel
theorem d_GL_bunker_70 : decode b_GL_bunker 70 = .ok (.iconst 1, 1) := by decide +kernel
theorem d_GL_bunker_71 : decode b_GL_bunker 71 = .ok (.ireturn, 1) := by decide +kernel
theorem d_GL_crane_0 : decode b_GL_crane 0 = .ok (.iload_n 1, 1) := by decide +kernel
theorem d_GL_crane_1 : decode b_GL_crane 1 = .ok (.iconst 1, 1) := by decide +kernel
theorem d_GL_crane_2 : decode b_GL_crane 2 = .ok (.sipush 10000, 3) := by decide +kernel
theorem d_GL_crane_5 : decode b_GL_crane 5 = .ok (.invokestatic 68, 3) := by decide +kernel
theorem d_GL_crane_8 : decode b_GL_crane 8 = .ok (.ifCond .ne 5, 3) := by decide +kernel
theorem d_GL_crane_11 : decode b_GL_crane 11 = .ok (.iconst 0, 1) := by decide +kernel
theorem d_GL_crane_12 : decode b_GL_crane 12 = .ok (.ireturn, 1) := by decide +kernel
theorem d_GL_crane_13 : decode b_GL_crane 13 = .ok (.aload_n 0, 1) := by decide +kernel
theorem d_GL_crane_14 : decode b_GL_crane 14 = .ok (.iload_n 1, 1) := by decide +kernel
theorem d_GL_crane_15 : decode b_GL_crane 15 = .ok (.putfield 41, 3) := by decide +kernel
theorem d_GL_crane_18 : decode b_GL_crane 18 = .ok (.iconst 1, 1) := by decide +kernel
theorem d_GL_crane_19 : decode b_GL_crane 19 = .ok (.ireturn, 1) := by decide +kernel
theorem d_GL_grab_0 : decode b_GL_grab 0 = .ok (.iload_n 1, 1) := by decide +kernel
theorem d_GL_grab_1 : decode b_GL_grab 1 = .ok (.invokestatic 78, 3) := by decide +kernel
theorem d_GL_grab_4 : decode b_GL_grab 4 = .ok (.ifCond .eq 23, 3) := by decide +kernel
theorem d_GL_grab_7 : decode b_GL_grab 7 = .ok (.aload_n 0, 1) := by decide +kernel
theorem d_GL_grab_8 : decode b_GL_grab 8 = .ok (.getfield 17, 3) := by decide +kernel
theorem d_GL_grab_11 : decode b_GL_grab 11 = .ok (.iload_n 1, 1) := by decide +kernel
theorem d_GL_grab_12 : decode b_GL_grab 12 = .ok (.aaload, 1) := by decide +kernel
theorem d_GL_grab_13 : decode b_GL_grab 13 = .ok (.aload_n 0, 1) := by decide +kernel
theorem d_GL_grab_14 : decode b_GL_grab 14 = .ok (.getfield 11, 3) := by decide +kernel
theorem d_GL_grab_17 : decode b_GL_grab 17 = .ok (.aload_n 0, 1) := by decide +kernel
theorem d_GL_grab_18 : decode b_GL_grab 18 = .ok (.getfield 41, 3) := by decide +kernel
theorem d_GL_grab_21 : decode b_GL_grab 21 = .ok (.invokevirtual 90, 3) := by decide +kernel
theorem d_GL_grab_24 : decode b_GL_grab 24 = .ok (.goto 4, 3) := by decide +kernel
theorem d_GL_grab_27 : decode b_GL_grab 27 = .ok (.iconst (-1), 1) := by decide +kernel
theorem d_GL_grab_28 : decode b_GL_grab 28 = .ok (.ireturn, 1) := by decide +kernel
theorem d_GL_share_0 : decode b_GL_share 0 = .ok (.iload_n 1, 1) := by decide +kernel
theorem d_GL_share_1 : decode b_GL_share 1 = .ok (.invokestatic 78, 3) := by decide +kernel
theorem d_GL_share_4 : decode b_GL_share 4 = .ok (.ifCond .eq 24, 3) := by decide +kernel
theorem d_GL_share_7 : decode b_GL_share 7 = .ok (.iload_n 2, 1) := by decide +kernel
theorem d_GL_share_8 : decode b_GL_share 8 = .ok (.invokestatic 64, 3) := by decide +kernel
theorem d_GL_share_11 : decode b_GL_share 11 = .ok (.ifCond .eq 17, 3) := by decide +kernel
theorem d_GL_share_14 : decode b_GL_share 14 = .ok (.aload_n 0, 1) := by decide +kernel
theorem d_GL_share_15 : decode b_GL_share 15 = .ok (.getfield 17, 3) := by decide +kernel
theorem d_GL_share_18 : decode b_GL_share 18 = .ok (.iload_n 1, 1) := by decide +kernel
theorem d_GL_share_19 : decode b_GL_share 19 = .ok (.aaload, 1) := by decide +kernel
theorem d_GL_share_20 : decode b_GL_share 20 = .ok (.getfield 86, 3) := by decide +kernel
theorem d_GL_share_23 : decode b_GL_share 23 = .ok (.iload_n 2, 1) := by decide +kernel
theorem d_GL_share_24 : decode b_GL_share 24 = .ok (.iaload, 1) := by decide +kernel
theorem d_GL_share_25 : decode b_GL_share 25 = .ok (.goto 4, 3) := by decide +kernel
theorem d_GL_share_28 : decode b_GL_share 28 = .ok (.iconst (-1), 1) := by decide +kernel
theorem d_GL_share_29 : decode b_GL_share 29 = .ok (.ireturn, 1) := by decide +kernel
theorem d_GL_air_0 : decode b_GL_air 0 = .ok (.aload_n 0, 1) := by decide +kernel
theorem d_GL_air_1 : decode b_GL_air 1 = .ok (.getfield 57, 3) := by decide +kernel
theorem d_GL_air_4 : decode b_GL_air 4 = .ok (.iload_n 1, 1) := by decide +kernel
theorem d_GL_air_5 : decode b_GL_air 5 = .ok (.invokevirtual 94, 3) := by decide +kernel
theorem d_GL_air_8 : decode b_GL_air 8 = .ok (.ifCond .eq 24, 3) := by decide +kernel
theorem d_GL_air_11 : decode b_GL_air 11 = .ok (.iload_n 2, 1) := by decide +kernel
theorem d_GL_air_12 : decode b_GL_air 12 = .ok (.iconst 0, 1) := by decide +kernel
theorem d_GL_air_13 : decode b_GL_air 13 = .ok (.ldc 81, 2) := by decide +kernel
theorem d_GL_air_15 : decode b_GL_air 15 = .ok (.invokestatic 68, 3) := by decide +kernel
theorem d_GL_air_18 : decode b_GL_air 18 = .ok (.ifCond .eq 14, 3) := by decide +kernel
theorem d_GL_air_21 : decode b_GL_air 21 = .ok (.iload_n 3, 1) := by decide +kernel
theorem d_GL_air_22 : decode b_GL_air 22 = .ok (.iconst 0, 1) := by decide +kernel
theorem d_GL_air_23 : decode b_GL_air 23 = .ok (.sipush 1000, 3) := by decide +kernel
theorem d_GL_air_26 : decode b_GL_air 26 = .ok (.invokestatic 68, 3) := by decide +kernel
theorem d_GL_air_29 : decode b_GL_air 29 = .ok (.ifCond .ne 5, 3) := by decide +kernel
theorem d_GL_air_32 : decode b_GL_air 32 = .ok (.iconst 0, 1) := by decide +kernel
theorem d_GL_air_33 : decode b_GL_air 33 = .ok (.ireturn, 1) := by decide +kernel
theorem d_GL_air_34 : decode b_GL_air 34 = .ok (.aload_n 0, 1) := by decide +kernel
theorem d_GL_air_35 : decode b_GL_air 35 = .ok (.getfield 57, 3) := by decide +kernel
theorem d_GL_air_38 : decode b_GL_air 38 = .ok (.getfield 97, 3) := by decide +kernel
theorem d_GL_air_41 : decode b_GL_air 41 = .ok (.iload_n 1, 1) := by decide +kernel
theorem d_GL_air_42 : decode b_GL_air 42 = .ok (.aaload, 1) := by decide +kernel
theorem d_GL_air_43 : decode b_GL_air 43 = .ok (.iload_n 2, 1) := by decide +kernel
theorem d_GL_air_44 : decode b_GL_air 44 = .ok (.putfield 101, 3) := by decide +kernel
theorem d_GL_air_47 : decode b_GL_air 47 = .ok (.aload_n 0, 1) := by decide +kernel
theorem d_GL_air_48 : decode b_GL_air 48 = .ok (.getfield 57, 3) := by decide +kernel
theorem d_GL_air_51 : decode b_GL_air 51 = .ok (.getfield 97, 3) := by decide +kernel
theorem d_GL_air_54 : decode b_GL_air 54 = .ok (.iload_n 1, 1) := by decide +kernel
theorem d_GL_air_55 : decode b_GL_air 55 = .ok (.aaload, 1) := by decide +kernel
theorem d_GL_air_56 : decode b_GL_air 56 = .ok (.iload_n 3, 1) := by decide +kernel
theorem d_GL_air_57 : decode b_GL_air 57 = .ok (.putfield 106, 3) := by decide +kernel
theorem d_GL_air_60 : decode b_GL_air 60 = .ok (.iconst 1, 1) := by decide +kernel
theorem d_GL_air_61 : decode b_GL_air 61 = .ok (.ireturn, 1) := by decide +kernel
theorem d_GL_set_0 : decode b_GL_set 0 = .ok (.iload_n 1, 1) := by decide +kernel
theorem d_GL_set_1 : decode b_GL_set 1 = .ok (.iconst 0, 1) := by decide +kernel
theorem d_GL_set_2 : decode b_GL_set 2 = .ok (.sipush 1000, 3) := by decide +kernel
theorem d_GL_set_5 : decode b_GL_set 5 = .ok (.invokestatic 68, 3) := by decide +kernel
theorem d_GL_set_8 : decode b_GL_set 8 = .ok (.ifCond .eq 14, 3) := by decide +kernel
theorem d_GL_set_11 : decode b_GL_set 11 = .ok (.iload_n 2, 1) := by decide +kernel
theorem d_GL_set_12 : decode b_GL_set 12 = .ok (.iconst 0, 1) := by decide +kernel
theorem d_GL_set_13 : decode b_GL_set 13 = .ok (.sipush 1000, 3) := by decide +kernel
theorem d_GL_set_16 : decode b_GL_set 16 = .ok (.invokestatic 68, 3) := by decide +kernel
theorem d_GL_set_19 : decode b_GL_set 19 = .ok (.ifCond .ne 5, 3) := by decide +kernel
theorem d_GL_set_22 : decode b_GL_set 22 = .ok (.iconst 0, 1) := by decide +kernel
theorem d_GL_set_23 : decode b_GL_set 23 = .ok (.ireturn, 1) := by decide +kernel
theorem d_GL_set_24 : decode b_GL_set 24 = .ok (.aload_n 0, 1) := by decide +kernel
theorem d_GL_set_25 : decode b_GL_set 25 = .ok (.getfield 57, 3) := by decide +kernel
theorem d_GL_set_28 : decode b_GL_set 28 = .ok (.iload_n 1, 1) := by decide +kernel
theorem d_GL_set_29 : decode b_GL_set 29 = .ok (.putfield 109, 3) := by decide +kernel
theorem d_GL_set_32 : decode b_GL_set 32 = .ok (.aload_n 0, 1) := by decide +kernel
theorem d_GL_set_33 : decode b_GL_set 33 = .ok (.getfield 24, 3) := by decide +kernel
theorem d_GL_set_36 : decode b_GL_set 36 = .ok (.iload_n 2, 1) := by decide +kernel
theorem d_GL_set_37 : decode b_GL_set 37 = .ok (.putfield 112, 3) := by decide +kernel
theorem d_GL_set_40 : decode b_GL_set 40 = .ok (.iconst 1, 1) := by decide +kernel
theorem d_GL_set_41 : decode b_GL_set 41 = .ok (.ireturn, 1) := by decide +kernel
theorem d_GL_control_0 : decode b_GL_control 0 = .ok (.iload_n 1, 1) := by decide +kernel
theorem d_GL_control_1 : decode b_GL_control 1 = .ok (.invokestatic 115, 3) := by decide +kernel
theorem d_GL_control_4 : decode b_GL_control 4 = .ok (.ifCond .eq 13, 3) := by decide +kernel
theorem d_GL_control_7 : decode b_GL_control 7 = .ok (.iload_n 2, 1) := by decide +kernel
theorem d_GL_control_8 : decode b_GL_control 8 = .ok (.iconst 0, 1) := by decide +kernel
theorem d_GL_control_9 : decode b_GL_control 9 = .ok (.ldc 118, 2) := by decide +kernel
theorem d_GL_control_11 : decode b_GL_control 11 = .ok (.invokestatic 68, 3) := by decide +kernel
theorem d_GL_control_14 : decode b_GL_control 14 = .ok (.ifCond .ne 5, 3) := by decide +kernel
theorem d_GL_control_17 : decode b_GL_control 17 = .ok (.iconst 0, 1) := by decide +kernel
theorem d_GL_control_18 : decode b_GL_control 18 = .ok (.ireturn, 1) := by decide +kernel
theorem d_GL_control_19 : decode b_GL_control 19 = .ok (.iload_n 3, 1) := by decide +kernel
theorem d_GL_control_20 : decode b_GL_control 20 = .ok (.sipush (-1000), 3) := by decide +kernel
theorem d_GL_control_23 : decode b_GL_control 23 = .ok (.sipush 1000, 3) := by decide +kernel
theorem d_GL_control_26 : decode b_GL_control 26 = .ok (.invokestatic 68, 3) := by decide +kernel
theorem d_GL_control_29 : decode b_GL_control 29 = .ok (.ifCond .eq 17, 3) := by decide +kernel
theorem d_GL_control_32 : decode b_GL_control 32 = .ok (.iload 4, 2) := by decide +kernel
theorem d_GL_control_34 : decode b_GL_control 34 = .ok (.sipush (-1000), 3) := by decide +kernel
theorem d_GL_control_37 : decode b_GL_control 37 = .ok (.sipush 1000, 3) := by decide +kernel
theorem d_GL_control_40 : decode b_GL_control 40 = .ok (.invokestatic 68, 3) := by decide +kernel
theorem d_GL_control_43 : decode b_GL_control 43 = .ok (.ifCond .ne 5, 3) := by decide +kernel
theorem d_GL_control_46 : decode b_GL_control 46 = .ok (.iconst 0, 1) := by decide +kernel
theorem d_GL_control_47 : decode b_GL_control 47 = .ok (.ireturn, 1) := by decide +kernel
theorem d_GL_control_48 : decode b_GL_control 48 = .ok (.aload_n 0, 1) := by decide +kernel
theorem d_GL_control_49 : decode b_GL_control 49 = .ok (.getfield 30, 3) := by decide +kernel
theorem d_GL_control_52 : decode b_GL_control 52 = .ok (.iload_n 1, 1) := by decide +kernel
theorem d_GL_control_53 : decode b_GL_control 53 = .ok (.aaload, 1) := by decide +kernel
theorem d_GL_control_54 : decode b_GL_control 54 = .ok (.iload_n 2, 1) := by decide +kernel
theorem d_GL_control_55 : decode b_GL_control 55 = .ok (.iload_n 3, 1) := by decide +kernel
theorem d_GL_control_56 : decode b_GL_control 56 = .ok (.iload 4, 2) := by decide +kernel
theorem d_GL_control_58 : decode b_GL_control 58 = .ok (.invokevirtual 119, 3) := by decide +kernel
theorem d_GL_control_61 : decode b_GL_control 61 = .ok (.iconst 1, 1) := by decide +kernel
theorem d_GL_control_62 : decode b_GL_control 62 = .ok (.ireturn, 1) := by decide +kernel
theorem d_GL_burner_0 : decode b_GL_burner 0 = .ok (.iload_n 1, 1) := by decide +kernel
theorem d_GL_burner_1 : decode b_GL_burner 1 = .ok (.iconst 0, 1) := by decide +kernel
theorem d_GL_burner_2 : decode b_GL_burner 2 = .ok (.ldc 118, 2) := by decide +kernel
theorem d_GL_burner_4 : decode b_GL_burner 4 = .ok (.invokestatic 68, 3) := by decide +kernel
theorem d_GL_burner_7 : decode b_GL_burner 7 = .ok (.ifCond .eq 13, 3) := by decide +kernel
theorem d_GL_burner_10 : decode b_GL_burner 10 = .ok (.iload_n 2, 1) := by decide +kernel
theorem d_GL_burner_11 : decode b_GL_burner 11 = .ok (.iconst 0, 1) := by decide +kernel
theorem d_GL_burner_12 : decode b_GL_burner 12 = .ok (.ldc 123, 2) := by decide +kernel
theorem d_GL_burner_14 : decode b_GL_burner 14 = .ok (.invokestatic 68, 3) := by decide +kernel
theorem d_GL_burner_17 : decode b_GL_burner 17 = .ok (.ifCond .ne 5, 3) := by decide +kernel
theorem d_GL_burner_20 : decode b_GL_burner 20 = .ok (.iconst 0, 1) := by decide +kernel
theorem d_GL_burner_21 : decode b_GL_burner 21 = .ok (.ireturn, 1) := by decide +kernel
theorem d_GL_burner_22 : decode b_GL_burner 22 = .ok (.aload_n 0, 1) := by decide +kernel
theorem d_GL_burner_23 : decode b_GL_burner 23 = .ok (.getfield 24, 3) := by decide +kernel
theorem d_GL_burner_26 : decode b_GL_burner 26 = .ok (.iload_n 1, 1) := by decide +kernel
theorem d_GL_burner_27 : decode b_GL_burner 27 = .ok (.iload_n 2, 1) := by decide +kernel
theorem d_GL_burner_28 : decode b_GL_burner 28 = .ok (.invokevirtual 124, 3) := by decide +kernel
theorem d_GL_burner_31 : decode b_GL_burner 31 = .ok (.iconst 1, 1) := by decide +kernel
theorem d_GL_burner_32 : decode b_GL_burner 32 = .ok (.ireturn, 1) := by decide +kernel
theorem d_GL_run_0 : decode b_GL_run 0 = .ok (.iload_n 1, 1) := by decide +kernel
theorem d_GL_run_1 : decode b_GL_run 1 = .ok (.iconst 1, 1) := by decide +kernel
theorem d_GL_run_2 : decode b_GL_run 2 = .ok (.sipush 1000, 3) := by decide +kernel
theorem d_GL_run_5 : decode b_GL_run 5 = .ok (.invokestatic 68, 3) := by decide +kernel
theorem d_GL_run_8 : decode b_GL_run 8 = .ok (.ifCond .eq 15, 3) := by decide +kernel
theorem d_GL_run_11 : decode b_GL_run 11 = .ok (.aload_n 0, 1) := by decide +kernel
theorem d_GL_run_12 : decode b_GL_run 12 = .ok (.getfield 45, 3) := by decide +kernel
theorem d_GL_run_15 : decode b_GL_run 15 = .ok (.iload_n 1, 1) := by decide +kernel
theorem d_GL_run_16 : decode b_GL_run 16 = .ok (.iadd, 1) := by decide +kernel
theorem d_GL_run_17 : decode b_GL_run 17 = .ok (.sipush 20000, 3) := by decide +kernel
theorem d_GL_run_20 : decode b_GL_run 20 = .ok (.if_icmp .le 5, 3) := by decide +kernel
theorem d_GL_run_23 : decode b_GL_run 23 = .ok (.iconst (-1), 1) := by decide +kernel
theorem d_GL_run_24 : decode b_GL_run 24 = .ok (.ireturn, 1) := by decide +kernel
theorem d_GL_run_25 : decode b_GL_run 25 = .ok (.iconst 0, 1) := by decide +kernel
theorem d_GL_run_26 : decode b_GL_run 26 = .ok (.istore_n 2, 1) := by decide +kernel
theorem d_GL_run_27 : decode b_GL_run 27 = .ok (.iload_n 2, 1) := by decide +kernel
theorem d_GL_run_28 : decode b_GL_run 28 = .ok (.iload_n 1, 1) := by decide +kernel
theorem d_GL_run_29 : decode b_GL_run 29 = .ok (.if_icmp .ge 13, 3) := by decide +kernel
theorem d_GL_run_32 : decode b_GL_run 32 = .ok (.aload_n 0, 1) := by decide +kernel
theorem d_GL_run_33 : decode b_GL_run 33 = .ok (.invokevirtual 128, 3) := by decide +kernel
theorem d_GL_run_36 : decode b_GL_run 36 = .ok (.iinc 2 1, 3) := by decide +kernel
theorem d_GL_run_39 : decode b_GL_run 39 = .ok (.goto (-12), 3) := by decide +kernel
theorem d_GL_run_42 : decode b_GL_run 42 = .ok (.aload_n 0, 1) := by decide +kernel
theorem d_GL_run_43 : decode b_GL_run 43 = .ok (.dup, 1) := by decide +kernel
theorem d_GL_run_44 : decode b_GL_run 44 = .ok (.getfield 45, 3) := by decide +kernel
theorem d_GL_run_47 : decode b_GL_run 47 = .ok (.iload_n 1, 1) := by decide +kernel
theorem d_GL_run_48 : decode b_GL_run 48 = .ok (.iadd, 1) := by decide +kernel
theorem d_GL_run_49 : decode b_GL_run 49 = .ok (.putfield 45, 3) := by decide +kernel
theorem d_GL_run_52 : decode b_GL_run 52 = .ok (.aload_n 0, 1) := by decide +kernel
theorem d_GL_run_53 : decode b_GL_run 53 = .ok (.getfield 45, 3) := by decide +kernel
theorem d_GL_run_56 : decode b_GL_run 56 = .ok (.ireturn, 1) := by decide +kernel
theorem d_GL_bed_0 : decode b_GL_bed 0 = .ok (.aload_n 0, 1) := by decide +kernel
theorem d_GL_bed_1 : decode b_GL_bed 1 = .ok (.getfield 57, 3) := by decide +kernel
theorem d_GL_bed_4 : decode b_GL_bed 4 = .ok (.iload_n 1, 1) := by decide +kernel
theorem d_GL_bed_5 : decode b_GL_bed 5 = .ok (.invokevirtual 94, 3) := by decide +kernel
theorem d_GL_bed_8 : decode b_GL_bed 8 = .ok (.ifCond .ne 7, 3) := by decide +kernel
theorem d_GL_bed_11 : decode b_GL_bed 11 = .ok (.ldc2_w 131, 3) := by decide +kernel
theorem d_GL_bed_14 : decode b_GL_bed 14 = .ok (.lreturn, 1) := by decide +kernel
theorem d_GL_bed_15 : decode b_GL_bed 15 = .ok (.aload_n 0, 1) := by decide +kernel
theorem d_GL_bed_16 : decode b_GL_bed 16 = .ok (.getfield 57, 3) := by decide +kernel
theorem d_GL_bed_19 : decode b_GL_bed 19 = .ok (.getfield 97, 3) := by decide +kernel
theorem d_GL_bed_22 : decode b_GL_bed 22 = .ok (.iload_n 1, 1) := by decide +kernel
theorem d_GL_bed_23 : decode b_GL_bed 23 = .ok (.aaload, 1) := by decide +kernel
theorem d_GL_bed_24 : decode b_GL_bed 24 = .ok (.astore_n 3, 1) := by decide +kernel
theorem d_GL_bed_25 : decode b_GL_bed 25 = .ok (.iload_n 2, 1) := by decide +kernel
theorem d_GL_bed_26 : decode b_GL_bed 26 = .ok (.tableswitch 51 0 3 #[30, 35, 40, 45], 30) := by decide +kernel
theorem d_GL_bed_56 : decode b_GL_bed 56 = .ok (.aload_n 3, 1) := by decide +kernel
theorem d_GL_bed_57 : decode b_GL_bed 57 = .ok (.getfield 133, 3) := by decide +kernel
theorem d_GL_bed_60 : decode b_GL_bed 60 = .ok (.lreturn, 1) := by decide +kernel
theorem d_GL_bed_61 : decode b_GL_bed 61 = .ok (.aload_n 3, 1) := by decide +kernel
theorem d_GL_bed_62 : decode b_GL_bed 62 = .ok (.getfield 135, 3) := by decide +kernel
theorem d_GL_bed_65 : decode b_GL_bed 65 = .ok (.lreturn, 1) := by decide +kernel
theorem d_GL_bed_66 : decode b_GL_bed 66 = .ok (.aload_n 3, 1) := by decide +kernel
theorem d_GL_bed_67 : decode b_GL_bed 67 = .ok (.getfield 138, 3) := by decide +kernel
theorem d_GL_bed_70 : decode b_GL_bed 70 = .ok (.lreturn, 1) := by decide +kernel
theorem d_GL_bed_71 : decode b_GL_bed 71 = .ok (.aload_n 3, 1) := by decide +kernel
theorem d_GL_bed_72 : decode b_GL_bed 72 = .ok (.getfield 101, 3) := by decide +kernel
theorem d_GL_bed_75 : decode b_GL_bed 75 = .ok (.i2l, 1) := by decide +kernel
theorem d_GL_bed_76 : decode b_GL_bed 76 = .ok (.lreturn, 1) := by decide +kernel
theorem d_GL_bed_77 : decode b_GL_bed 77 = .ok (.ldc2_w 131, 3) := by decide +kernel
theorem d_GL_bed_80 : decode b_GL_bed 80 = .ok (.lreturn, 1) := by decide +kernel
theorem d_GL_gas_0 : decode b_GL_gas 0 = .ok (.iload_n 1, 1) := by decide +kernel
theorem d_GL_gas_1 : decode b_GL_gas 1 = .ok (.tableswitch 63 0 3 #[31, 39, 47, 55], 31) := by decide +kernel
theorem d_GL_gas_32 : decode b_GL_gas 32 = .ok (.aload_n 0, 1) := by decide +kernel
theorem d_GL_gas_33 : decode b_GL_gas 33 = .ok (.getfield 24, 3) := by decide +kernel
theorem d_GL_gas_36 : decode b_GL_gas 36 = .ok (.getfield 140, 3) := by decide +kernel
theorem d_GL_gas_39 : decode b_GL_gas 39 = .ok (.lreturn, 1) := by decide +kernel
theorem d_GL_gas_40 : decode b_GL_gas 40 = .ok (.aload_n 0, 1) := by decide +kernel
theorem d_GL_gas_41 : decode b_GL_gas 41 = .ok (.getfield 57, 3) := by decide +kernel
theorem d_GL_gas_44 : decode b_GL_gas 44 = .ok (.getfield 143, 3) := by decide +kernel
theorem d_GL_gas_47 : decode b_GL_gas 47 = .ok (.lreturn, 1) := by decide +kernel
theorem d_GL_gas_48 : decode b_GL_gas 48 = .ok (.aload_n 0, 1) := by decide +kernel
theorem d_GL_gas_49 : decode b_GL_gas 49 = .ok (.getfield 57, 3) := by decide +kernel
theorem d_GL_gas_52 : decode b_GL_gas 52 = .ok (.getfield 146, 3) := by decide +kernel
theorem d_GL_gas_55 : decode b_GL_gas 55 = .ok (.lreturn, 1) := by decide +kernel
theorem d_GL_gas_56 : decode b_GL_gas 56 = .ok (.aload_n 0, 1) := by decide +kernel
theorem d_GL_gas_57 : decode b_GL_gas 57 = .ok (.getfield 57, 3) := by decide +kernel
theorem d_GL_gas_60 : decode b_GL_gas 60 = .ok (.getfield 149, 3) := by decide +kernel
theorem d_GL_gas_63 : decode b_GL_gas 63 = .ok (.lreturn, 1) := by decide +kernel
theorem d_GL_gas_64 : decode b_GL_gas 64 = .ok (.ldc2_w 131, 3) := by decide +kernel
theorem d_GL_gas_67 : decode b_GL_gas 67 = .ok (.lreturn, 1) := by decide +kernel
theorem d_GL_output_0 : decode b_GL_output 0 = .ok (.iload_n 1, 1) := by decide +kernel
theorem d_GL_output_1 : decode b_GL_output 1 = .ok (.invokestatic 115, 3) := by decide +kernel
theorem d_GL_output_4 : decode b_GL_output 4 = .ok (.ifCond .eq 27, 3) := by decide +kernel
theorem d_GL_output_7 : decode b_GL_output 7 = .ok (.aload_n 0, 1) := by decide +kernel
theorem d_GL_output_8 : decode b_GL_output 8 = .ok (.getfield 30, 3) := by decide +kernel
theorem d_GL_output_11 : decode b_GL_output 11 = .ok (.iload_n 1, 1) := by decide +kernel
theorem d_GL_output_12 : decode b_GL_output 12 = .ok (.aaload, 1) := by decide +kernel
theorem d_GL_output_13 : decode b_GL_output 13 = .ok (.getfield 152, 3) := by decide +kernel
theorem d_GL_output_16 : decode b_GL_output 16 = .ok (.ifCond .eq 15, 3) := by decide +kernel
theorem d_GL_output_19 : decode b_GL_output 19 = .ok (.aload_n 0, 1) := by decide +kernel
theorem d_GL_output_20 : decode b_GL_output 20 = .ok (.getfield 30, 3) := by decide +kernel
theorem d_GL_output_23 : decode b_GL_output 23 = .ok (.iload_n 1, 1) := by decide +kernel
theorem d_GL_output_24 : decode b_GL_output 24 = .ok (.aaload, 1) := by decide +kernel
theorem d_GL_output_25 : decode b_GL_output 25 = .ok (.getfield 156, 3) := by decide +kernel
theorem d_GL_output_28 : decode b_GL_output 28 = .ok (.goto 4, 3) := by decide +kernel
theorem d_GL_output_31 : decode b_GL_output 31 = .ok (.iconst (-1), 1) := by decide +kernel
theorem d_GL_output_32 : decode b_GL_output 32 = .ok (.ireturn, 1) := by decide +kernel
theorem d_GL_burning_0 : decode b_GL_burning 0 = .ok (.aload_n 0, 1) := by decide +kernel
theorem d_GL_burning_1 : decode b_GL_burning 1 = .ok (.getfield 24, 3) := by decide +kernel
theorem d_GL_burning_4 : decode b_GL_burning 4 = .ok (.getfield 159, 3) := by decide +kernel
theorem d_GL_burning_7 : decode b_GL_burning 7 = .ok (.ireturn, 1) := by decide +kernel
theorem d_GL_ash_0 : decode b_GL_ash 0 = .ok (.iload_n 1, 1) := by decide +kernel
theorem d_GL_ash_1 : decode b_GL_ash 1 = .ok (.tableswitch 132 0 9 #[55, 60, 68, 76, 84, 92, 100, 108, 116, 124], 55) := by decide +kernel
theorem d_GL_ash_56 : decode b_GL_ash 56 = .ok (.aload_n 0, 1) := by decide +kernel
theorem d_GL_ash_57 : decode b_GL_ash 57 = .ok (.getfield 48, 3) := by decide +kernel
theorem d_GL_ash_60 : decode b_GL_ash 60 = .ok (.lreturn, 1) := by decide +kernel
theorem d_GL_ash_61 : decode b_GL_ash 61 = .ok (.aload_n 0, 1) := by decide +kernel
theorem d_GL_ash_62 : decode b_GL_ash 62 = .ok (.getfield 57, 3) := by decide +kernel
theorem d_GL_ash_65 : decode b_GL_ash 65 = .ok (.getfield 162, 3) := by decide +kernel
theorem d_GL_ash_68 : decode b_GL_ash 68 = .ok (.lreturn, 1) := by decide +kernel
theorem d_GL_ash_69 : decode b_GL_ash 69 = .ok (.aload_n 0, 1) := by decide +kernel
theorem d_GL_ash_70 : decode b_GL_ash 70 = .ok (.getfield 57, 3) := by decide +kernel
theorem d_GL_ash_73 : decode b_GL_ash 73 = .ok (.getfield 165, 3) := by decide +kernel
theorem d_GL_ash_76 : decode b_GL_ash 76 = .ok (.lreturn, 1) := by decide +kernel
theorem d_GL_ash_77 : decode b_GL_ash 77 = .ok (.aload_n 0, 1) := by decide +kernel
theorem d_GL_ash_78 : decode b_GL_ash 78 = .ok (.getfield 57, 3) := by decide +kernel
theorem d_GL_ash_81 : decode b_GL_ash 81 = .ok (.getfield 168, 3) := by decide +kernel
theorem d_GL_ash_84 : decode b_GL_ash 84 = .ok (.lreturn, 1) := by decide +kernel
theorem d_GL_ash_85 : decode b_GL_ash 85 = .ok (.aload_n 0, 1) := by decide +kernel
theorem d_GL_ash_86 : decode b_GL_ash 86 = .ok (.getfield 57, 3) := by decide +kernel
theorem d_GL_ash_89 : decode b_GL_ash 89 = .ok (.getfield 171, 3) := by decide +kernel
theorem d_GL_ash_92 : decode b_GL_ash 92 = .ok (.lreturn, 1) := by decide +kernel
theorem d_GL_ash_93 : decode b_GL_ash 93 = .ok (.aload_n 0, 1) := by decide +kernel
theorem d_GL_ash_94 : decode b_GL_ash 94 = .ok (.getfield 24, 3) := by decide +kernel
theorem d_GL_ash_97 : decode b_GL_ash 97 = .ok (.getfield 174, 3) := by decide +kernel
theorem d_GL_ash_100 : decode b_GL_ash 100 = .ok (.lreturn, 1) := by decide +kernel
theorem d_GL_ash_101 : decode b_GL_ash 101 = .ok (.aload_n 0, 1) := by decide +kernel
theorem d_GL_ash_102 : decode b_GL_ash 102 = .ok (.getfield 24, 3) := by decide +kernel
theorem d_GL_ash_105 : decode b_GL_ash 105 = .ok (.getfield 177, 3) := by decide +kernel
theorem d_GL_ash_108 : decode b_GL_ash 108 = .ok (.lreturn, 1) := by decide +kernel
theorem d_GL_ash_109 : decode b_GL_ash 109 = .ok (.aload_n 0, 1) := by decide +kernel
theorem d_GL_ash_110 : decode b_GL_ash 110 = .ok (.getfield 24, 3) := by decide +kernel
theorem d_GL_ash_113 : decode b_GL_ash 113 = .ok (.getfield 180, 3) := by decide +kernel
theorem d_GL_ash_116 : decode b_GL_ash 116 = .ok (.lreturn, 1) := by decide +kernel
theorem d_GL_ash_117 : decode b_GL_ash 117 = .ok (.aload_n 0, 1) := by decide +kernel
theorem d_GL_ash_118 : decode b_GL_ash 118 = .ok (.getfield 24, 3) := by decide +kernel
theorem d_GL_ash_121 : decode b_GL_ash 121 = .ok (.getfield 183, 3) := by decide +kernel
theorem d_GL_ash_124 : decode b_GL_ash 124 = .ok (.lreturn, 1) := by decide +kernel
theorem d_GL_ash_125 : decode b_GL_ash 125 = .ok (.aload_n 0, 1) := by decide +kernel
theorem d_GL_ash_126 : decode b_GL_ash 126 = .ok (.getfield 24, 3) := by decide +kernel
theorem d_GL_ash_129 : decode b_GL_ash 129 = .ok (.getfield 186, 3) := by decide +kernel
theorem d_GL_ash_132 : decode b_GL_ash 132 = .ok (.lreturn, 1) := by decide +kernel
theorem d_GL_ash_133 : decode b_GL_ash 133 = .ok (.ldc2_w 131, 3) := by decide +kernel
theorem d_GL_ash_136 : decode b_GL_ash 136 = .ok (.lreturn, 1) := by decide +kernel
theorem d_GL_balance_0 : decode b_GL_balance 0 = .ok (.iload_n 1, 1) := by decide +kernel
theorem d_GL_balance_1 : decode b_GL_balance 1 = .ok (.lookupswitch 66 #[(0, 27), (1, 58)], 27) := by decide +kernel
theorem d_GL_balance_28 : decode b_GL_balance 28 = .ok (.aload_n 0, 1) := by decide +kernel
theorem d_GL_balance_29 : decode b_GL_balance 29 = .ok (.getfield 48, 3) := by decide +kernel
theorem d_GL_balance_32 : decode b_GL_balance 32 = .ok (.aload_n 0, 1) := by decide +kernel
theorem d_GL_balance_33 : decode b_GL_balance 33 = .ok (.invokevirtual 189, 3) := by decide +kernel
theorem d_GL_balance_36 : decode b_GL_balance 36 = .ok (.lsub, 1) := by decide +kernel
theorem d_GL_balance_37 : decode b_GL_balance 37 = .ok (.aload_n 0, 1) := by decide +kernel
theorem d_GL_balance_38 : decode b_GL_balance 38 = .ok (.invokevirtual 193, 3) := by decide +kernel
theorem d_GL_balance_41 : decode b_GL_balance 41 = .ok (.lsub, 1) := by decide +kernel
theorem d_GL_balance_42 : decode b_GL_balance 42 = .ok (.aload_n 0, 1) := by decide +kernel
theorem d_GL_balance_43 : decode b_GL_balance 43 = .ok (.getfield 57, 3) := by decide +kernel
theorem d_GL_balance_46 : decode b_GL_balance 46 = .ok (.invokevirtual 196, 3) := by decide +kernel
theorem d_GL_balance_49 : decode b_GL_balance 49 = .ok (.lsub, 1) := by decide +kernel
theorem d_GL_balance_50 : decode b_GL_balance 50 = .ok (.aload_n 0, 1) := by decide +kernel
theorem d_GL_balance_51 : decode b_GL_balance 51 = .ok (.getfield 57, 3) := by decide +kernel
theorem d_GL_balance_54 : decode b_GL_balance 54 = .ok (.invokevirtual 199, 3) := by decide +kernel
theorem d_GL_balance_57 : decode b_GL_balance 57 = .ok (.lsub, 1) := by decide +kernel
theorem d_GL_balance_58 : decode b_GL_balance 58 = .ok (.lreturn, 1) := by decide +kernel
theorem d_GL_balance_59 : decode b_GL_balance 59 = .ok (.aload_n 0, 1) := by decide +kernel
theorem d_GL_balance_60 : decode b_GL_balance 60 = .ok (.getfield 24, 3) := by decide +kernel
theorem d_GL_balance_63 : decode b_GL_balance 63 = .ok (.invokevirtual 202, 3) := by decide +kernel
theorem d_GL_balance_66 : decode b_GL_balance 66 = .ok (.lreturn, 1) := by decide +kernel
theorem d_GL_balance_67 : decode b_GL_balance 67 = .ok (.ldc2_w 131, 3) := by decide +kernel
theorem d_GL_balance_70 : decode b_GL_balance 70 = .ok (.lreturn, 1) := by decide +kernel
theorem d_GL_plan_0 : decode b_GL_plan 0 = .ok (.iload_n 1, 1) := by decide +kernel
theorem d_GL_plan_1 : decode b_GL_plan 1 = .ok (.iconst 1, 1) := by decide +kernel
theorem d_GL_plan_2 : decode b_GL_plan 2 = .ok (.iconst 4, 1) := by decide +kernel
theorem d_GL_plan_3 : decode b_GL_plan 3 = .ok (.invokestatic 68, 3) := by decide +kernel
theorem d_GL_plan_6 : decode b_GL_plan 6 = .ok (.ifCond .ne 5, 3) := by decide +kernel
theorem d_GL_plan_9 : decode b_GL_plan 9 = .ok (.iconst (-1), 1) := by decide +kernel
theorem d_GL_plan_10 : decode b_GL_plan 10 = .ok (.ireturn, 1) := by decide +kernel
theorem d_GL_plan_11 : decode b_GL_plan 11 = .ok (.aload_n 0, 1) := by decide +kernel
theorem d_GL_plan_12 : decode b_GL_plan 12 = .ok (.getfield 37, 3) := by decide +kernel
theorem d_GL_plan_15 : decode b_GL_plan 15 = .ok (.aload_n 0, 1) := by decide +kernel
theorem d_GL_plan_16 : decode b_GL_plan 16 = .ok (.getfield 17, 3) := by decide +kernel
theorem d_GL_plan_19 : decode b_GL_plan 19 = .ok (.invokevirtual 205, 3) := by decide +kernel
theorem d_GL_plan_22 : decode b_GL_plan 22 = .ok (.aload_n 0, 1) := by decide +kernel
theorem d_GL_plan_23 : decode b_GL_plan 23 = .ok (.getfield 37, 3) := by decide +kernel
theorem d_GL_plan_26 : decode b_GL_plan 26 = .ok (.iload_n 1, 1) := by decide +kernel
theorem d_GL_plan_27 : decode b_GL_plan 27 = .ok (.invokevirtual 209, 3) := by decide +kernel
theorem d_GL_plan_30 : decode b_GL_plan 30 = .ok (.ireturn, 1) := by decide +kernel
theorem d_GL_planned_0 : decode b_GL_planned 0 = .ok (.iload_n 1, 1) := by decide +kernel
theorem d_GL_planned_1 : decode b_GL_planned 1 = .ok (.ifCond .lt 26, 3) := by decide +kernel
theorem d_GL_planned_4 : decode b_GL_planned 4 = .ok (.iload_n 1, 1) := by decide +kernel
theorem d_GL_planned_5 : decode b_GL_planned 5 = .ok (.aload_n 0, 1) := by decide +kernel
theorem d_GL_planned_6 : decode b_GL_planned 6 = .ok (.getfield 37, 3) := by decide +kernel
theorem d_GL_planned_9 : decode b_GL_planned 9 = .ok (.getfield 213, 3) := by decide +kernel
theorem d_GL_planned_12 : decode b_GL_planned 12 = .ok (.if_icmp .ge 15, 3) := by decide +kernel
theorem d_GL_planned_15 : decode b_GL_planned 15 = .ok (.aload_n 0, 1) := by decide +kernel
theorem d_GL_planned_16 : decode b_GL_planned 16 = .ok (.getfield 37, 3) := by decide +kernel
theorem d_GL_planned_19 : decode b_GL_planned 19 = .ok (.getfield 216, 3) := by decide +kernel
theorem d_GL_planned_22 : decode b_GL_planned 22 = .ok (.iload_n 1, 1) := by decide +kernel
theorem d_GL_planned_23 : decode b_GL_planned 23 = .ok (.iaload, 1) := by decide +kernel
theorem d_GL_planned_24 : decode b_GL_planned 24 = .ok (.goto 4, 3) := by decide +kernel
theorem d_GL_planned_27 : decode b_GL_planned 27 = .ok (.iconst (-1), 1) := by decide +kernel
theorem d_GL_planned_28 : decode b_GL_planned 28 = .ok (.ireturn, 1) := by decide +kernel
theorem d_GL_within_0 : decode b_GL_within 0 = .ok (.iload_n 0, 1) := by decide +kernel
theorem d_GL_within_1 : decode b_GL_within 1 = .ok (.iload_n 1, 1) := by decide +kernel
theorem d_GL_within_2 : decode b_GL_within 2 = .ok (.if_icmp .lt 12, 3) := by decide +kernel
theorem d_GL_within_5 : decode b_GL_within 5 = .ok (.iload_n 0, 1) := by decide +kernel
theorem d_GL_within_6 : decode b_GL_within 6 = .ok (.iload_n 2, 1) := by decide +kernel
theorem d_GL_within_7 : decode b_GL_within 7 = .ok (.if_icmp .gt 7, 3) := by decide +kernel
theorem d_GL_within_10 : decode b_GL_within 10 = .ok (.iconst 1, 1) := by decide +kernel
theorem d_GL_within_11 : decode b_GL_within 11 = .ok (.goto 4, 3) := by decide +kernel
theorem d_GL_within_14 : decode b_GL_within 14 = .ok (.iconst 0, 1) := by decide +kernel
theorem d_GL_within_15 : decode b_GL_within 15 = .ok (.ireturn, 1) := by decide +kernel
theorem d_GL_isKind_0 : decode b_GL_isKind 0 = .ok (.iload_n 0, 1) := by decide +kernel
theorem d_GL_isKind_1 : decode b_GL_isKind 1 = .ok (.iconst 0, 1) := by decide +kernel
theorem d_GL_isKind_2 : decode b_GL_isKind 2 = .ok (.iconst 3, 1) := by decide +kernel
theorem d_GL_isKind_3 : decode b_GL_isKind 3 = .ok (.invokestatic 68, 3) := by decide +kernel
theorem d_GL_isKind_6 : decode b_GL_isKind 6 = .ok (.ireturn, 1) := by decide +kernel
theorem d_GL_isCell_0 : decode b_GL_isCell 0 = .ok (.iload_n 0, 1) := by decide +kernel
theorem d_GL_isCell_1 : decode b_GL_isCell 1 = .ok (.iconst 0, 1) := by decide +kernel
theorem d_GL_isCell_2 : decode b_GL_isCell 2 = .ok (.iconst 5, 1) := by decide +kernel
theorem d_GL_isCell_3 : decode b_GL_isCell 3 = .ok (.invokestatic 68, 3) := by decide +kernel
theorem d_GL_isCell_6 : decode b_GL_isCell 6 = .ok (.ireturn, 1) := by decide +kernel
theorem d_GL_isController_0 : decode b_GL_isController 0 = .ok (.iload_n 0, 1) := by decide +kernel
theorem d_GL_isController_1 : decode b_GL_isController 1 = .ok (.iconst 0, 1) := by decide +kernel
theorem d_GL_isController_2 : decode b_GL_isController 2 = .ok (.iconst 1, 1) := by decide +kernel
theorem d_GL_isController_3 : decode b_GL_isController 3 = .ok (.invokestatic 68, 3) := by decide +kernel
theorem d_GL_isController_6 : decode b_GL_isController 6 = .ok (.ireturn, 1) := by decide +kernel
theorem d_GL_thousandths_0 : decode b_GL_thousandths 0 = .ok (.lload_n 0, 1) := by decide +kernel
theorem d_GL_thousandths_1 : decode b_GL_thousandths 1 = .ok (.iload_n 2, 1) := by decide +kernel
theorem d_GL_thousandths_2 : decode b_GL_thousandths 2 = .ok (.i2l, 1) := by decide +kernel
theorem d_GL_thousandths_3 : decode b_GL_thousandths 3 = .ok (.lmul, 1) := by decide +kernel
theorem d_GL_thousandths_4 : decode b_GL_thousandths 4 = .ok (.ldc2_w 219, 3) := by decide +kernel
theorem d_GL_thousandths_7 : decode b_GL_thousandths 7 = .ok (.ldiv, 1) := by decide +kernel
theorem d_GL_thousandths_8 : decode b_GL_thousandths 8 = .ok (.lreturn, 1) := by decide +kernel
theorem d_GL_cut_0 : decode b_GL_cut 0 = .ok (.lload_n 2, 1) := by decide +kernel
theorem d_GL_cut_1 : decode b_GL_cut 1 = .ok (.lload 4, 2) := by decide +kernel
theorem d_GL_cut_3 : decode b_GL_cut 3 = .ok (.lload_n 0, 1) := by decide +kernel
theorem d_GL_cut_4 : decode b_GL_cut 4 = .ok (.invokestatic 221, 3) := by decide +kernel
theorem d_GL_cut_7 : decode b_GL_cut 7 = .ok (.invokestatic 227, 3) := by decide +kernel
theorem d_GL_cut_10 : decode b_GL_cut 10 = .ok (.lreturn, 1) := by decide +kernel
theorem d_GL_passMinute_0 : decode b_GL_passMinute 0 = .ok (.aload_n 0, 1) := by decide +kernel
theorem d_GL_passMinute_1 : decode b_GL_passMinute 1 = .ok (.getfield 57, 3) := by decide +kernel
theorem d_GL_passMinute_4 : decode b_GL_passMinute 4 = .ok (.invokevirtual 230, 3) := by decide +kernel
theorem d_GL_passMinute_7 : decode b_GL_passMinute 7 = .ok (.aload_n 0, 1) := by decide +kernel
theorem d_GL_passMinute_8 : decode b_GL_passMinute 8 = .ok (.invokevirtual 233, 3) := by decide +kernel
theorem d_GL_passMinute_11 : decode b_GL_passMinute 11 = .ok (.aload_n 0, 1) := by decide +kernel
theorem d_GL_passMinute_12 : decode b_GL_passMinute 12 = .ok (.getfield 57, 3) := by decide +kernel
theorem d_GL_passMinute_15 : decode b_GL_passMinute 15 = .ok (.aload_n 0, 1) := by decide +kernel
theorem d_GL_passMinute_16 : decode b_GL_passMinute 16 = .ok (.getfield 24, 3) := by decide +kernel
theorem d_GL_passMinute_19 : decode b_GL_passMinute 19 = .ok (.invokevirtual 236, 3) := by decide +kernel
theorem d_GL_passMinute_22 : decode b_GL_passMinute 22 = .ok (.aload_n 0, 1) := by decide +kernel
theorem d_GL_passMinute_23 : decode b_GL_passMinute 23 = .ok (.getfield 24, 3) := by decide +kernel
theorem d_GL_passMinute_26 : decode b_GL_passMinute 26 = .ok (.invokevirtual 240, 3) := by decide +kernel
theorem d_GL_passMinute_29 : decode b_GL_passMinute 29 = .ok (.aload_n 0, 1) := by decide +kernel
theorem d_GL_passMinute_30 : decode b_GL_passMinute 30 = .ok (.getfield 24, 3) := by decide +kernel
theorem d_GL_passMinute_33 : decode b_GL_passMinute 33 = .ok (.invokevirtual 243, 3) := by decide +kernel
theorem d_GL_passMinute_36 : decode b_GL_passMinute 36 = .ok (.aload_n 0, 1) := by decide +kernel
theorem d_GL_passMinute_37 : decode b_GL_passMinute 37 = .ok (.invokevirtual 246, 3) := by decide +kernel
theorem d_GL_passMinute_40 : decode b_GL_passMinute 40 = .ok (.return_, 1) := by decide +kernel
theorem d_GL_feedGrate_0 : decode b_GL_feedGrate 0 = .ok (.aload_n 0, 1) := by decide +kernel
theorem d_GL_feedGrate_1 : decode b_GL_feedGrate 1 = .ok (.getfield 11, 3) := by decide +kernel
theorem d_GL_feedGrate_4 : decode b_GL_feedGrate 4 = .ok (.astore_n 1, 1) := by decide +kernel
theorem d_GL_feedGrate_5 : decode b_GL_feedGrate 5 = .ok (.aload_n 1, 1) := by decide +kernel
theorem d_GL_feedGrate_6 : decode b_GL_feedGrate 6 = .ok (.arraylength, 1) := by decide +kernel
theorem d_GL_feedGrate_7 : decode b_GL_feedGrate 7 = .ok (.istore_n 2, 1) := by decide +kernel
theorem d_GL_feedGrate_8 : decode b_GL_feedGrate 8 = .ok (.iconst 0, 1) := by decide +kernel
theorem d_GL_feedGrate_9 : decode b_GL_feedGrate 9 = .ok (.istore_n 3, 1) := by decide +kernel
theorem d_GL_feedGrate_10 : decode b_GL_feedGrate 10 = .ok (.iload_n 3, 1) := by decide +kernel
theorem d_GL_feedGrate_11 : decode b_GL_feedGrate 11 = .ok (.iload_n 2, 1) := by decide +kernel
theorem d_GL_feedGrate_12 : decode b_GL_feedGrate 12 = .ok (.if_icmp .ge 77, 3) := by decide +kernel
theorem d_GL_feedGrate_15 : decode b_GL_feedGrate 15 = .ok (.aload_n 1, 1) := by decide +kernel
theorem d_GL_feedGrate_16 : decode b_GL_feedGrate 16 = .ok (.iload_n 3, 1) := by decide +kernel
theorem d_GL_feedGrate_17 : decode b_GL_feedGrate 17 = .ok (.aaload, 1) := by decide +kernel
theorem d_GL_feedGrate_18 : decode b_GL_feedGrate 18 = .ok (.astore 4, 2) := by decide +kernel
theorem d_GL_feedGrate_20 : decode b_GL_feedGrate 20 = .ok (.aload 4, 2) := by decide +kernel
theorem d_GL_feedGrate_22 : decode b_GL_feedGrate 22 = .ok (.getfield 249, 3) := by decide +kernel
theorem d_GL_feedGrate_25 : decode b_GL_feedGrate 25 = .ok (.aload 4, 2) := by decide +kernel
theorem d_GL_feedGrate_27 : decode b_GL_feedGrate 27 = .ok (.getfield 72, 3) := by decide +kernel
theorem d_GL_feedGrate_30 : decode b_GL_feedGrate 30 = .ok (.invokestatic 251, 3) := by decide +kernel
theorem d_GL_feedGrate_33 : decode b_GL_feedGrate 33 = .ok (.lstore 5, 2) := by decide +kernel
theorem d_GL_feedGrate_35 : decode b_GL_feedGrate 35 = .ok (.aload 4, 2) := by decide +kernel
theorem d_GL_feedGrate_37 : decode b_GL_feedGrate 37 = .ok (.getfield 249, 3) := by decide +kernel
theorem d_GL_feedGrate_40 : decode b_GL_feedGrate 40 = .ok (.aload 4, 2) := by decide +kernel
theorem d_GL_feedGrate_42 : decode b_GL_feedGrate 42 = .ok (.getfield 75, 3) := by decide +kernel
theorem d_GL_feedGrate_45 : decode b_GL_feedGrate 45 = .ok (.invokestatic 251, 3) := by decide +kernel
theorem d_GL_feedGrate_48 : decode b_GL_feedGrate 48 = .ok (.lstore 7, 2) := by decide +kernel
theorem d_GL_feedGrate_50 : decode b_GL_feedGrate 50 = .ok (.aload_n 0, 1) := by decide +kernel
theorem d_GL_feedGrate_51 : decode b_GL_feedGrate 51 = .ok (.getfield 57, 3) := by decide +kernel
theorem d_GL_feedGrate_54 : decode b_GL_feedGrate 54 = .ok (.getfield 97, 3) := by decide +kernel
theorem d_GL_feedGrate_57 : decode b_GL_feedGrate 57 = .ok (.iconst 0, 1) := by decide +kernel
theorem d_GL_feedGrate_58 : decode b_GL_feedGrate 58 = .ok (.aaload, 1) := by decide +kernel
theorem d_GL_feedGrate_59 : decode b_GL_feedGrate 59 = .ok (.lload 5, 2) := by decide +kernel
theorem d_GL_feedGrate_61 : decode b_GL_feedGrate 61 = .ok (.aload 4, 2) := by decide +kernel
theorem d_GL_feedGrate_63 : decode b_GL_feedGrate 63 = .ok (.getfield 249, 3) := by decide +kernel
theorem d_GL_feedGrate_66 : decode b_GL_feedGrate 66 = .ok (.lload 5, 2) := by decide +kernel
theorem d_GL_feedGrate_68 : decode b_GL_feedGrate 68 = .ok (.lsub, 1) := by decide +kernel
theorem d_GL_feedGrate_69 : decode b_GL_feedGrate 69 = .ok (.lload 7, 2) := by decide +kernel
theorem d_GL_feedGrate_71 : decode b_GL_feedGrate 71 = .ok (.lsub, 1) := by decide +kernel
theorem d_GL_feedGrate_72 : decode b_GL_feedGrate 72 = .ok (.lload 7, 2) := by decide +kernel
theorem d_GL_feedGrate_74 : decode b_GL_feedGrate 74 = .ok (.invokevirtual 255, 3) := by decide +kernel
theorem d_GL_feedGrate_77 : decode b_GL_feedGrate 77 = .ok (.aload 4, 2) := by decide +kernel
theorem d_GL_feedGrate_79 : decode b_GL_feedGrate 79 = .ok (.lconst 0, 1) := by decide +kernel
theorem d_GL_feedGrate_80 : decode b_GL_feedGrate 80 = .ok (.putfield 249, 3) := by decide +kernel
theorem d_GL_feedGrate_83 : decode b_GL_feedGrate 83 = .ok (.iinc 3 1, 3) := by decide +kernel
theorem d_GL_feedGrate_86 : decode b_GL_feedGrate 86 = .ok (.goto (-76), 3) := by decide +kernel
theorem d_GL_feedGrate_89 : decode b_GL_feedGrate 89 = .ok (.return_, 1) := by decide +kernel
theorem d_GL_obeyControllers_0 : decode b_GL_obeyControllers 0 = .ok (.aload_n 0, 1) := by decide +kernel
theorem d_GL_obeyControllers_1 : decode b_GL_obeyControllers 1 = .ok (.getfield 30, 3) := by decide +kernel
theorem d_GL_obeyControllers_4 : decode b_GL_obeyControllers 4 = .ok (.iconst 0, 1) := by decide +kernel
theorem d_GL_obeyControllers_5 : decode b_GL_obeyControllers 5 = .ok (.aaload, 1) := by decide +kernel
theorem d_GL_obeyControllers_6 : decode b_GL_obeyControllers 6 = .ok (.astore_n 1, 1) := by decide +kernel
theorem d_GL_obeyControllers_7 : decode b_GL_obeyControllers 7 = .ok (.aload_n 1, 1) := by decide +kernel
theorem d_GL_obeyControllers_8 : decode b_GL_obeyControllers 8 = .ok (.getfield 152, 3) := by decide +kernel
theorem d_GL_obeyControllers_11 : decode b_GL_obeyControllers 11 = .ok (.ifCond .eq 25, 3) := by decide +kernel
theorem d_GL_obeyControllers_14 : decode b_GL_obeyControllers 14 = .ok (.aload_n 1, 1) := by decide +kernel
theorem d_GL_obeyControllers_15 : decode b_GL_obeyControllers 15 = .ok (.aload_n 0, 1) := by decide +kernel
theorem d_GL_obeyControllers_16 : decode b_GL_obeyControllers 16 = .ok (.getfield 24, 3) := by decide +kernel
theorem d_GL_obeyControllers_19 : decode b_GL_obeyControllers 19 = .ok (.getfield 140, 3) := by decide +kernel
theorem d_GL_obeyControllers_22 : decode b_GL_obeyControllers 22 = .ok (.invokevirtual 259, 3) := by decide +kernel
theorem d_GL_obeyControllers_25 : decode b_GL_obeyControllers 25 = .ok (.aload_n 0, 1) := by decide +kernel
theorem d_GL_obeyControllers_26 : decode b_GL_obeyControllers 26 = .ok (.getfield 57, 3) := by decide +kernel
theorem d_GL_obeyControllers_29 : decode b_GL_obeyControllers 29 = .ok (.aload_n 1, 1) := by decide +kernel
theorem d_GL_obeyControllers_30 : decode b_GL_obeyControllers 30 = .ok (.getfield 156, 3) := by decide +kernel
theorem d_GL_obeyControllers_33 : decode b_GL_obeyControllers 33 = .ok (.invokevirtual 262, 3) := by decide +kernel
theorem d_GL_obeyControllers_36 : decode b_GL_obeyControllers 36 = .ok (.aload_n 0, 1) := by decide +kernel
theorem d_GL_obeyControllers_37 : decode b_GL_obeyControllers 37 = .ok (.getfield 30, 3) := by decide +kernel
theorem d_GL_obeyControllers_40 : decode b_GL_obeyControllers 40 = .ok (.iconst 1, 1) := by decide +kernel
theorem d_GL_obeyControllers_41 : decode b_GL_obeyControllers 41 = .ok (.aaload, 1) := by decide +kernel
theorem d_GL_obeyControllers_42 : decode b_GL_obeyControllers 42 = .ok (.astore_n 2, 1) := by decide +kernel
theorem d_GL_obeyControllers_43 : decode b_GL_obeyControllers 43 = .ok (.aload_n 2, 1) := by decide +kernel
theorem d_GL_obeyControllers_44 : decode b_GL_obeyControllers 44 = .ok (.getfield 152, 3) := by decide +kernel
theorem d_GL_obeyControllers_47 : decode b_GL_obeyControllers 47 = .ok (.ifCond .eq 31, 3) := by decide +kernel
theorem d_GL_obeyControllers_50 : decode b_GL_obeyControllers 50 = .ok (.aload_n 2, 1) := by decide +kernel
theorem d_GL_obeyControllers_51 : decode b_GL_obeyControllers 51 = .ok (.aload_n 0, 1) := by decide +kernel
theorem d_GL_obeyControllers_52 : decode b_GL_obeyControllers 52 = .ok (.getfield 57, 3) := by decide +kernel
theorem d_GL_obeyControllers_55 : decode b_GL_obeyControllers 55 = .ok (.getfield 143, 3) := by decide +kernel
theorem d_GL_obeyControllers_58 : decode b_GL_obeyControllers 58 = .ok (.invokevirtual 259, 3) := by decide +kernel
theorem d_GL_obeyControllers_61 : decode b_GL_obeyControllers 61 = .ok (.aload_n 0, 1) := by decide +kernel
theorem d_GL_obeyControllers_62 : decode b_GL_obeyControllers 62 = .ok (.getfield 57, 3) := by decide +kernel
theorem d_GL_obeyControllers_65 : decode b_GL_obeyControllers 65 = .ok (.aload_n 2, 1) := by decide +kernel
theorem d_GL_obeyControllers_66 : decode b_GL_obeyControllers 66 = .ok (.getfield 156, 3) := by decide +kernel
theorem d_GL_obeyControllers_69 : decode b_GL_obeyControllers 69 = .ok (.sipush 1000, 3) := by decide +kernel
theorem d_GL_obeyControllers_72 : decode b_GL_obeyControllers 72 = .ok (.invokestatic 265, 3) := by decide +kernel
theorem d_GL_obeyControllers_75 : decode b_GL_obeyControllers 75 = .ok (.putfield 109, 3) := by decide +kernel
theorem d_GL_obeyControllers_78 : decode b_GL_obeyControllers 78 = .ok (.return_, 1) := by decide +kernel
theorem d_GL_inCells_0 : decode b_GL_inCells 0 = .ok (.lconst 0, 1) := by decide +kernel
theorem d_GL_inCells_1 : decode b_GL_inCells 1 = .ok (.lstore_n 1, 1) := by decide +kernel
theorem d_GL_inCells_2 : decode b_GL_inCells 2 = .ok (.aload_n 0, 1) := by decide +kernel
theorem d_GL_inCells_3 : decode b_GL_inCells 3 = .ok (.getfield 17, 3) := by decide +kernel
theorem d_GL_inCells_6 : decode b_GL_inCells 6 = .ok (.astore_n 3, 1) := by decide +kernel
theorem d_GL_inCells_7 : decode b_GL_inCells 7 = .ok (.aload_n 3, 1) := by decide +kernel
theorem d_GL_inCells_8 : decode b_GL_inCells 8 = .ok (.arraylength, 1) := by decide +kernel
theorem d_GL_inCells_9 : decode b_GL_inCells 9 = .ok (.istore 4, 2) := by decide +kernel
theorem d_GL_inCells_11 : decode b_GL_inCells 11 = .ok (.iconst 0, 1) := by decide +kernel
theorem d_GL_inCells_12 : decode b_GL_inCells 12 = .ok (.istore 5, 2) := by decide +kernel
theorem d_GL_inCells_14 : decode b_GL_inCells 14 = .ok (.iload 5, 2) := by decide +kernel
theorem d_GL_inCells_16 : decode b_GL_inCells 16 = .ok (.iload 4, 2) := by decide +kernel
theorem d_GL_inCells_18 : decode b_GL_inCells 18 = .ok (.if_icmp .ge 24, 3) := by decide +kernel
theorem d_GL_inCells_21 : decode b_GL_inCells 21 = .ok (.aload_n 3, 1) := by decide +kernel
theorem d_GL_inCells_22 : decode b_GL_inCells 22 = .ok (.iload 5, 2) := by decide +kernel
theorem d_GL_inCells_24 : decode b_GL_inCells 24 = .ok (.aaload, 1) := by decide +kernel
theorem d_GL_inCells_25 : decode b_GL_inCells 25 = .ok (.astore 6, 2) := by decide +kernel
theorem d_GL_inCells_27 : decode b_GL_inCells 27 = .ok (.lload_n 1, 1) := by decide +kernel
theorem d_GL_inCells_28 : decode b_GL_inCells 28 = .ok (.aload 6, 2) := by decide +kernel
theorem d_GL_inCells_30 : decode b_GL_inCells 30 = .ok (.invokevirtual 82, 3) := by decide +kernel
theorem d_GL_inCells_33 : decode b_GL_inCells 33 = .ok (.i2l, 1) := by decide +kernel
theorem d_GL_inCells_34 : decode b_GL_inCells 34 = .ok (.ladd, 1) := by decide +kernel
theorem d_GL_inCells_35 : decode b_GL_inCells 35 = .ok (.lstore_n 1, 1) := by decide +kernel
theorem d_GL_inCells_36 : decode b_GL_inCells 36 = .ok (.iinc 5 1, 3) := by decide +kernel
theorem d_GL_inCells_39 : decode b_GL_inCells 39 = .ok (.goto (-25), 3) := by decide +kernel
theorem d_GL_inCells_42 : decode b_GL_inCells 42 = .ok (.lload_n 1, 1) := by decide +kernel
theorem d_GL_inCells_43 : decode b_GL_inCells 43 = .ok (.lreturn, 1) := by decide +kernel
theorem d_GL_grabbed_0 : decode b_GL_grabbed 0 = .ok (.lconst 0, 1) := by decide +kernel
theorem d_GL_grabbed_1 : decode b_GL_grabbed 1 = .ok (.lstore_n 1, 1) := by decide +kernel
theorem d_GL_grabbed_2 : decode b_GL_grabbed 2 = .ok (.aload_n 0, 1) := by decide +kernel
theorem d_GL_grabbed_3 : decode b_GL_grabbed 3 = .ok (.getfield 11, 3) := by decide +kernel
theorem d_GL_grabbed_6 : decode b_GL_grabbed 6 = .ok (.astore_n 3, 1) := by decide +kernel
theorem d_GL_grabbed_7 : decode b_GL_grabbed 7 = .ok (.aload_n 3, 1) := by decide +kernel
theorem d_GL_grabbed_8 : decode b_GL_grabbed 8 = .ok (.arraylength, 1) := by decide +kernel
theorem d_GL_grabbed_9 : decode b_GL_grabbed 9 = .ok (.istore 4, 2) := by decide +kernel
theorem d_GL_grabbed_11 : decode b_GL_grabbed 11 = .ok (.iconst 0, 1) := by decide +kernel
theorem d_GL_grabbed_12 : decode b_GL_grabbed 12 = .ok (.istore 5, 2) := by decide +kernel
theorem d_GL_grabbed_14 : decode b_GL_grabbed 14 = .ok (.iload 5, 2) := by decide +kernel
theorem d_GL_grabbed_16 : decode b_GL_grabbed 16 = .ok (.iload 4, 2) := by decide +kernel
theorem d_GL_grabbed_18 : decode b_GL_grabbed 18 = .ok (.if_icmp .ge 23, 3) := by decide +kernel
theorem d_GL_grabbed_21 : decode b_GL_grabbed 21 = .ok (.aload_n 3, 1) := by decide +kernel
theorem d_GL_grabbed_22 : decode b_GL_grabbed 22 = .ok (.iload 5, 2) := by decide +kernel
theorem d_GL_grabbed_24 : decode b_GL_grabbed 24 = .ok (.aaload, 1) := by decide +kernel
theorem d_GL_grabbed_25 : decode b_GL_grabbed 25 = .ok (.astore 6, 2) := by decide +kernel
theorem d_GL_grabbed_27 : decode b_GL_grabbed 27 = .ok (.lload_n 1, 1) := by decide +kernel
theorem d_GL_grabbed_28 : decode b_GL_grabbed 28 = .ok (.aload 6, 2) := by decide +kernel
theorem d_GL_grabbed_30 : decode b_GL_grabbed 30 = .ok (.getfield 249, 3) := by decide +kernel
theorem d_GL_grabbed_33 : decode b_GL_grabbed 33 = .ok (.ladd, 1) := by decide +kernel
theorem d_GL_grabbed_34 : decode b_GL_grabbed 34 = .ok (.lstore_n 1, 1) := by decide +kernel
theorem d_GL_grabbed_35 : decode b_GL_grabbed 35 = .ok (.iinc 5 1, 3) := by decide +kernel
theorem d_GL_grabbed_38 : decode b_GL_grabbed 38 = .ok (.goto (-24), 3) := by decide +kernel
theorem d_GL_grabbed_41 : decode b_GL_grabbed 41 = .ok (.lload_n 1, 1) := by decide +kernel
theorem d_GL_grabbed_42 : decode b_GL_grabbed 42 = .ok (.lreturn, 1) := by decide +kernel
