theorem d_Mo_init_0 : decode b_Mo_init 0 = .ok (.aload_n 0, 1) := by decide +kernel
theorem d_Mo_init_1 : decode b_Mo_init 1 = .ok (.invokespecial 1, 3) := by decide +kernel
theorem d_Mo_init_4 : decode b_Mo_init 4 = .ok (.aload_n 0, 1) := by decide +kernel
theorem d_Mo_init_5 : decode b_Mo_init 5 = .ok (.iconst 4, 1) := by decide +kernel
theorem d_Mo_init_6 : decode b_Mo_init 6 = .ok (.newarray .int, 2) := by decide +kernel
theorem d_Mo_init_8 : decode b_Mo_init 8 = .ok (.putfield 7, 3) := by decide +kernel
theorem d_Mo_init_11 : decode b_Mo_init 11 = .ok (.aload_n 0, 1) := by decide +kernel
theorem d_Mo_init_12 : decode b_Mo_init 12 = .ok (.iconst 4, 1) := by decide +kernel
theorem d_Mo_init_13 : decode b_Mo_init 13 = .ok (.newarray .int, 2) := by decide +kernel
theorem d_Mo_init_15 : decode b_Mo_init 15 = .ok (.putfield 13, 3) := by decide +kernel
theorem d_Mo_init_18 : decode b_Mo_init 18 = .ok (.aload_n 0, 1) := by decide +kernel
theorem d_Mo_init_19 : decode b_Mo_init 19 = .ok (.bipush 24, 2) := by decide +kernel
theorem d_Mo_init_21 : decode b_Mo_init 21 = .ok (.newarray .int, 2) := by decide +kernel
theorem d_Mo_init_23 : decode b_Mo_init 23 = .ok (.putfield 16, 3) := by decide +kernel
theorem d_Mo_init_26 : decode b_Mo_init 26 = .ok (.aload_n 0, 1) := by decide +kernel
theorem d_Mo_init_27 : decode b_Mo_init 27 = .ok (.sipush 1000, 3) := by decide +kernel
theorem d_Mo_init_30 : decode b_Mo_init 30 = .ok (.putfield 19, 3) := by decide +kernel
theorem d_Mo_init_33 : decode b_Mo_init 33 = .ok (.aload_n 0, 1) := by decide +kernel
theorem d_Mo_init_34 : decode b_Mo_init 34 = .ok (.iconst 4, 1) := by decide +kernel
theorem d_Mo_init_35 : decode b_Mo_init 35 = .ok (.newarray .int, 2) := by decide +kernel
theorem d_Mo_init_37 : decode b_Mo_init 37 = .ok (.putfield 23, 3) := by decide +kernel
theorem d_Mo_init_40 : decode b_Mo_init 40 = .ok (.aload_n 0, 1) := by decide +kernel
theorem d_Mo_init_41 : decode b_Mo_init 41 = .ok (.bipush 6, 2) := by decide +kernel
theorem d_Mo_init_43 : decode b_Mo_init 43 = .ok (.newarray .long, 2) := by decide +kernel
theorem d_Mo_init_45 : decode b_Mo_init 45 = .ok (.putfield 26, 3) := by decide +kernel
theorem d_Mo_init_48 : decode b_Mo_init 48 = .ok (.aload_n 0, 1) := by decide +kernel
theorem d_Mo_init_49 : decode b_Mo_init 49 = .ok (.bipush 6, 2) := by decide +kernel
theorem d_Mo_init_51 : decode b_Mo_init 51 = .ok (.newarray .long, 2) := by decide +kernel
theorem d_Mo_init_53 : decode b_Mo_init 53 = .ok (.putfield 30, 3) := by decide +kernel
theorem d_Mo_init_56 : decode b_Mo_init 56 = .ok (.aload_n 0, 1) := by decide +kernel
theorem d_Mo_init_57 : decode b_Mo_init 57 = .ok (.bipush 6, 2) := by decide +kernel
theorem d_Mo_init_59 : decode b_Mo_init 59 = .ok (.newarray .long, 2) := by decide +kernel
theorem d_Mo_init_61 : decode b_Mo_init 61 = .ok (.putfield 33, 3) := by decide +kernel
theorem d_Mo_init_64 : decode b_Mo_init 64 = .ok (.aload_n 0, 1) := by decide +kernel
theorem d_Mo_init_65 : decode b_Mo_init 65 = .ok (.bipush 6, 2) := by decide +kernel
theorem d_Mo_init_67 : decode b_Mo_init 67 = .ok (.newarray .int, 2) := by decide +kernel
theorem d_Mo_init_69 : decode b_Mo_init 69 = .ok (.putfield 36, 3) := by decide +kernel
theorem d_Mo_init_72 : decode b_Mo_init 72 = .ok (.aload_n 0, 1) := by decide +kernel
theorem d_Mo_init_73 : decode b_Mo_init 73 = .ok (.bipush 6, 2) := by decide +kernel
theorem d_Mo_init_75 : decode b_Mo_init 75 = .ok (.newarray .int, 2) := by decide +kernel
theorem d_Mo_init_77 : decode b_Mo_init 77 = .ok (.putfield 39, 3) := by decide +kernel
theorem d_Mo_init_80 : decode b_Mo_init 80 = .ok (.aload_n 0, 1) := by decide +kernel
theorem d_Mo_init_81 : decode b_Mo_init 81 = .ok (.bipush 100, 2) := by decide +kernel
theorem d_Mo_init_83 : decode b_Mo_init 83 = .ok (.putfield 42, 3) := by decide +kernel
theorem d_Mo_init_86 : decode b_Mo_init 86 = .ok (.aload_n 0, 1) := by decide +kernel
theorem d_Mo_init_87 : decode b_Mo_init 87 = .ok (.sipush 500, 3) := by decide +kernel
theorem d_Mo_init_90 : decode b_Mo_init 90 = .ok (.putfield 45, 3) := by decide +kernel
theorem d_Mo_init_93 : decode b_Mo_init 93 = .ok (.aload_n 0, 1) := by decide +kernel
theorem d_Mo_init_94 : decode b_Mo_init 94 = .ok (.iconst 2, 1) := by decide +kernel
theorem d_Mo_init_95 : decode b_Mo_init 95 = .ok (.newarray .boolean, 2) := by decide +kernel
theorem d_Mo_init_97 : decode b_Mo_init 97 = .ok (.putfield 48, 3) := by decide +kernel
theorem d_Mo_init_100 : decode b_Mo_init 100 = .ok (.aload_n 0, 1) := by decide +kernel
theorem d_Mo_init_101 : decode b_Mo_init 101 = .ok (.iconst 2, 1) := by decide +kernel
theorem d_Mo_init_102 : decode b_Mo_init 102 = .ok (.newarray .int, 2) := by decide +kernel
theorem d_Mo_init_104 : decode b_Mo_init 104 = .ok (.putfield 52, 3) := by decide +kernel
theorem d_Mo_init_107 : decode b_Mo_init 107 = .ok (.aload_n 0, 1) := by decide +kernel
theorem d_Mo_init_108 : decode b_Mo_init 108 = .ok (.iconst 2, 1) := by decide +kernel
theorem d_Mo_init_109 : decode b_Mo_init 109 = .ok (.newarray .int, 2) := by decide +kernel
theorem d_Mo_init_111 : decode b_Mo_init 111 = .ok (.putfield 55, 3) := by decide +kernel
theorem d_Mo_init_114 : decode b_Mo_init 114 = .ok (.aload_n 0, 1) := by decide +kernel
theorem d_Mo_init_115 : decode b_Mo_init 115 = .ok (.iconst 2, 1) := by decide +kernel
theorem d_Mo_init_116 : decode b_Mo_init 116 = .ok (.newarray .int, 2) := by decide +kernel
theorem d_Mo_init_118 : decode b_Mo_init 118 = .ok (.putfield 58, 3) := by decide +kernel
theorem d_Mo_init_121 : decode b_Mo_init 121 = .ok (.aload_n 0, 1) := by decide +kernel
theorem d_Mo_init_122 : decode b_Mo_init 122 = .ok (.iconst 2, 1) := by decide +kernel
theorem d_Mo_init_123 : decode b_Mo_init 123 = .ok (.newarray .long, 2) := by decide +kernel
theorem d_Mo_init_125 : decode b_Mo_init 125 = .ok (.putfield 61, 3) := by decide +kernel
theorem d_Mo_init_128 : decode b_Mo_init 128 = .ok (.aload_n 0, 1) := by decide +kernel
theorem d_Mo_init_129 : decode b_Mo_init 129 = .ok (.iconst 2, 1) := by decide +kernel
theorem d_Mo_init_130 : decode b_Mo_init 130 = .ok (.newarray .int, 2) := by decide +kernel
theorem d_Mo_init_132 : decode b_Mo_init 132 = .ok (.putfield 64, 3) := by decide +kernel
theorem d_Mo_init_135 : decode b_Mo_init 135 = .ok (.aload_n 0, 1) := by decide +kernel
theorem d_Mo_init_136 : decode b_Mo_init 136 = .ok (.iconst 4, 1) := by decide +kernel
theorem d_Mo_init_137 : decode b_Mo_init 137 = .ok (.newarray .long, 2) := by decide +kernel
theorem d_Mo_init_139 : decode b_Mo_init 139 = .ok (.putfield 67, 3) := by decide +kernel
theorem d_Mo_init_142 : decode b_Mo_init 142 = .ok (.aload_n 0, 1) := by decide +kernel
theorem d_Mo_init_143 : decode b_Mo_init 143 = .ok (.bipush 10, 2) := by decide +kernel
theorem d_Mo_init_145 : decode b_Mo_init 145 = .ok (.newarray .long, 2) := by decide +kernel
theorem d_Mo_init_147 : decode b_Mo_init 147 = .ok (.putfield 70, 3) := by decide +kernel
theorem d_Mo_init_150 : decode b_Mo_init 150 = .ok (.aload_n 0, 1) := by decide +kernel
theorem d_Mo_init_151 : decode b_Mo_init 151 = .ok (.iconst 4, 1) := by decide +kernel
theorem d_Mo_init_152 : decode b_Mo_init 152 = .ok (.newarray .int, 2) := by decide +kernel
theorem d_Mo_init_154 : decode b_Mo_init 154 = .ok (.putfield 73, 3) := by decide +kernel
theorem d_Mo_init_157 : decode b_Mo_init 157 = .ok (.aload_n 0, 1) := by decide +kernel
theorem d_Mo_init_158 : decode b_Mo_init 158 = .ok (.iload_n 1, 1) := by decide +kernel
theorem d_Mo_init_159 : decode b_Mo_init 159 = .ok (.iconst 1, 1) := by decide +kernel
theorem d_Mo_init_160 : decode b_Mo_init 160 = .ok (.if_icmp .lt 13, 3) := by decide +kernel
theorem d_Mo_init_163 : decode b_Mo_init 163 = .ok (.iload_n 1, 1) := by decide +kernel
theorem d_Mo_init_164 : decode b_Mo_init 164 = .ok (.bipush 6, 2) := by decide +kernel
theorem d_Mo_init_166 : decode b_Mo_init 166 = .ok (.if_icmp .gt 7, 3) := by decide +kernel
theorem d_Mo_init_169 : decode b_Mo_init 169 = .ok (.iload_n 1, 1) := by decide +kernel
theorem d_Mo_init_170 : decode b_Mo_init 170 = .ok (.goto 4, 3) := by decide +kernel
theorem d_Mo_init_173 : decode b_Mo_init 173 = .ok (.iconst 1, 1) := by decide +kernel
theorem d_Mo_init_174 : decode b_Mo_init 174 = .ok (.putfield 76, 3) := by decide +kernel
theorem d_Mo_init_177 : decode b_Mo_init 177 = .ok (.iconst 0, 1) := by decide +kernel
theorem d_Mo_init_178 : decode b_Mo_init 178 = .ok (.istore_n 2, 1) := by decide +kernel
theorem d_Mo_init_179 : decode b_Mo_init 179 = .ok (.iload_n 2, 1) := by decide +kernel
theorem d_Mo_init_180 : decode b_Mo_init 180 = .ok (.bipush 6, 2) := by decide +kernel
theorem d_Mo_init_182 : decode b_Mo_init 182 = .ok (.if_icmp .ge 18, 3) := by decide +kernel
theorem d_Mo_init_185 : decode b_Mo_init 185 = .ok (.aload_n 0, 1) := by decide +kernel
theorem d_Mo_init_186 : decode b_Mo_init 186 = .ok (.getfield 39, 3) := by decide +kernel
theorem d_Mo_init_189 : decode b_Mo_init 189 = .ok (.iload_n 2, 1) := by decide +kernel
theorem d_Mo_init_190 : decode b_Mo_init 190 = .ok (.sipush 200, 3) := by decide +kernel
theorem d_Mo_init_193 : decode b_Mo_init 193 = .ok (.iastore, 1) := by decide +kernel
theorem d_Mo_init_194 : decode b_Mo_init 194 = .ok (.iinc 2 1, 3) := by decide +kernel
theorem d_Mo_init_197 : decode b_Mo_init 197 = .ok (.goto (-18), 3) := by decide +kernel
theorem d_Mo_init_200 : decode b_Mo_init 200 = .ok (.return_, 1) := by decide +kernel
theorem d_Mo_isIn_0 : decode b_Mo_isIn 0 = .ok (.lload_n 0, 1) := by decide +kernel
theorem d_Mo_isIn_1 : decode b_Mo_isIn 1 = .ok (.lload_n 2, 1) := by decide +kernel
theorem d_Mo_isIn_2 : decode b_Mo_isIn 2 = .ok (.lcmp, 1) := by decide +kernel
theorem d_Mo_isIn_3 : decode b_Mo_isIn 3 = .ok (.ifCond .lt 14, 3) := by decide +kernel
theorem d_Mo_isIn_6 : decode b_Mo_isIn 6 = .ok (.lload_n 0, 1) := by decide +kernel
theorem d_Mo_isIn_7 : decode b_Mo_isIn 7 = .ok (.lload 4, 2) := by decide +kernel
theorem d_Mo_isIn_9 : decode b_Mo_isIn 9 = .ok (.lcmp, 1) := by decide +kernel
theorem d_Mo_isIn_10 : decode b_Mo_isIn 10 = .ok (.ifCond .gt 7, 3) := by decide +kernel
theorem d_Mo_isIn_13 : decode b_Mo_isIn 13 = .ok (.iconst 1, 1) := by decide +kernel
theorem d_Mo_isIn_14 : decode b_Mo_isIn 14 = .ok (.goto 4, 3) := by decide +kernel
theorem d_Mo_isIn_17 : decode b_Mo_isIn 17 = .ok (.iconst 0, 1) := by decide +kernel
theorem d_Mo_isIn_18 : decode b_Mo_isIn 18 = .ok (.ireturn, 1) := by decide +kernel
theorem d_Mo_isKind_0 : decode b_Mo_isKind 0 = .ok (.iload_n 0, 1) := by decide +kernel
theorem d_Mo_isKind_1 : decode b_Mo_isKind 1 = .ok (.ifCond .lt 12, 3) := by decide +kernel
theorem d_Mo_isKind_4 : decode b_Mo_isKind 4 = .ok (.iload_n 0, 1) := by decide +kernel
theorem d_Mo_isKind_5 : decode b_Mo_isKind 5 = .ok (.iconst 4, 1) := by decide +kernel
theorem d_Mo_isKind_6 : decode b_Mo_isKind 6 = .ok (.if_icmp .ge 7, 3) := by decide +kernel
theorem d_Mo_isKind_9 : decode b_Mo_isKind 9 = .ok (.iconst 1, 1) := by decide +kernel
theorem d_Mo_isKind_10 : decode b_Mo_isKind 10 = .ok (.goto 4, 3) := by decide +kernel
theorem d_Mo_isKind_13 : decode b_Mo_isKind 13 = .ok (.iconst 0, 1) := by decide +kernel
theorem d_Mo_isKind_14 : decode b_Mo_isKind 14 = .ok (.ireturn, 1) := by decide +kernel
theorem d_Mo_isCell_0 : decode b_Mo_isCell 0 = .ok (.iload_n 0, 1) := by decide +kernel
theorem d_Mo_isCell_1 : decode b_Mo_isCell 1 = .ok (.ifCond .lt 13, 3) := by decide +kernel
theorem d_Mo_isCell_4 : decode b_Mo_isCell 4 = .ok (.iload_n 0, 1) := by decide +kernel
theorem d_Mo_isCell_5 : decode b_Mo_isCell 5 = .ok (.bipush 6, 2) := by decide +kernel
theorem d_Mo_isCell_7 : decode b_Mo_isCell 7 = .ok (.if_icmp .ge 7, 3) := by decide +kernel
theorem d_Mo_isCell_10 : decode b_Mo_isCell 10 = .ok (.iconst 1, 1) := by decide +kernel
theorem d_Mo_isCell_11 : decode b_Mo_isCell 11 = .ok (.goto 4, 3) := by decide +kernel
theorem d_Mo_isCell_14 : decode b_Mo_isCell 14 = .ok (.iconst 0, 1) := by decide +kernel
theorem d_Mo_isCell_15 : decode b_Mo_isCell 15 = .ok (.ireturn, 1) := by decide +kernel
theorem d_Mo_isZone_0 : decode b_Mo_isZone 0 = .ok (.iload_n 1, 1) := by decide +kernel
theorem d_Mo_isZone_1 : decode b_Mo_isZone 1 = .ok (.ifCond .lt 15, 3) := by decide +kernel
theorem d_Mo_isZone_4 : decode b_Mo_isZone 4 = .ok (.iload_n 1, 1) := by decide +kernel
theorem d_Mo_isZone_5 : decode b_Mo_isZone 5 = .ok (.aload_n 0, 1) := by decide +kernel
theorem d_Mo_isZone_6 : decode b_Mo_isZone 6 = .ok (.getfield 76, 3) := by decide +kernel
theorem d_Mo_isZone_9 : decode b_Mo_isZone 9 = .ok (.if_icmp .ge 7, 3) := by decide +kernel
theorem d_Mo_isZone_12 : decode b_Mo_isZone 12 = .ok (.iconst 1, 1) := by decide +kernel
theorem d_Mo_isZone_13 : decode b_Mo_isZone 13 = .ok (.goto 4, 3) := by decide +kernel
theorem d_Mo_isZone_16 : decode b_Mo_isZone 16 = .ok (.iconst 0, 1) := by decide +kernel
theorem d_Mo_isZone_17 : decode b_Mo_isZone 17 = .ok (.ireturn, 1) := by decide +kernel
theorem d_Mo_partOf_0 : decode b_Mo_partOf 0 = .ok (.lload_n 0, 1) := by decide +kernel
theorem d_Mo_partOf_1 : decode b_Mo_partOf 1 = .ok (.lload_n 2, 1) := by decide +kernel
theorem d_Mo_partOf_2 : decode b_Mo_partOf 2 = .ok (.lmul, 1) := by decide +kernel
theorem d_Mo_partOf_3 : decode b_Mo_partOf 3 = .ok (.ldc2_w 79, 3) := by decide +kernel
theorem d_Mo_partOf_6 : decode b_Mo_partOf 6 = .ok (.ldiv, 1) := by decide +kernel
theorem d_Mo_partOf_7 : decode b_Mo_partOf 7 = .ok (.lreturn, 1) := by decide +kernel
theorem d_Mo_kind_0 : decode b_Mo_kind 0 = .ok (.iload_n 1, 1) := by decide +kernel
theorem d_Mo_kind_1 : decode b_Mo_kind 1 = .ok (.invokestatic 81, 3) := by decide +kernel
theorem d_Mo_kind_4 : decode b_Mo_kind 4 = .ok (.ifCond .eq 36, 3) := by decide +kernel
theorem d_Mo_kind_7 : decode b_Mo_kind 7 = .ok (.iload_n 2, 1) := by decide +kernel
theorem d_Mo_kind_8 : decode b_Mo_kind 8 = .ok (.i2l, 1) := by decide +kernel
theorem d_Mo_kind_9 : decode b_Mo_kind 9 = .ok (.lconst 0, 1) := by decide +kernel
theorem d_Mo_kind_10 : decode b_Mo_kind 10 = .ok (.ldc2_w 79, 3) := by decide +kernel
theorem d_Mo_kind_13 : decode b_Mo_kind 13 = .ok (.invokestatic 85, 3) := by decide +kernel
theorem d_Mo_kind_16 : decode b_Mo_kind 16 = .ok (.ifCond .eq 24, 3) := by decide +kernel
theorem d_Mo_kind_19 : decode b_Mo_kind 19 = .ok (.iload_n 3, 1) := by decide +kernel
theorem d_Mo_kind_20 : decode b_Mo_kind 20 = .ok (.i2l, 1) := by decide +kernel
theorem d_Mo_kind_21 : decode b_Mo_kind 21 = .ok (.lconst 0, 1) := by decide +kernel
theorem d_Mo_kind_22 : decode b_Mo_kind 22 = .ok (.ldc2_w 79, 3) := by decide +kernel
theorem d_Mo_kind_25 : decode b_Mo_kind 25 = .ok (.invokestatic 85, 3) := by decide +kernel
theorem d_Mo_kind_28 : decode b_Mo_kind 28 = .ok (.ifCond .eq 12, 3) := by decide +kernel
theorem d_Mo_kind_31 : decode b_Mo_kind 31 = .ok (.iload_n 2, 1) := by decide +kernel
theorem d_Mo_kind_32 : decode b_Mo_kind 32 = .ok (.iload_n 3, 1) := by decide +kernel
theorem d_Mo_kind_33 : decode b_Mo_kind 33 = .ok (.iadd, 1) := by decide +kernel
theorem d_Mo_kind_34 : decode b_Mo_kind 34 = .ok (.sipush 1000, 3) := by decide +kernel
theorem d_Mo_kind_37 : decode b_Mo_kind 37 = .ok (.if_icmp .le 5, 3) := by decide +kernel
theorem d_Mo_kind_40 : decode b_Mo_kind 40 = .ok (.iconst 0, 1) := by decide +kernel
theorem d_Mo_kind_41 : decode b_Mo_kind 41 = .ok (.ireturn, 1) := by decide +kernel
theorem d_Mo_kind_42 : decode b_Mo_kind 42 = .ok (.aload_n 0, 1) := by decide +kernel
theorem d_Mo_kind_43 : decode b_Mo_kind 43 = .ok (.getfield 7, 3) := by decide +kernel
theorem d_Mo_kind_46 : decode b_Mo_kind 46 = .ok (.iload_n 1, 1) := by decide +kernel
theorem d_Mo_kind_47 : decode b_Mo_kind 47 = .ok (.iload_n 2, 1) := by decide +kernel
theorem d_Mo_kind_48 : decode b_Mo_kind 48 = .ok (.iastore, 1) := by decide +kernel
theorem d_Mo_kind_49 : decode b_Mo_kind 49 = .ok (.aload_n 0, 1) := by decide +kernel
theorem d_Mo_kind_50 : decode b_Mo_kind 50 = .ok (.getfield 13, 3) := by decide +kernel
theorem d_Mo_kind_53 : decode b_Mo_kind 53 = .ok (.iload_n 1, 1) := by decide +kernel
theorem d_Mo_kind_54 : decode b_Mo_kind 54 = .ok (.iload_n 3, 1) := by decide +kernel
theorem d_Mo_kind_55 : decode b_Mo_kind 55 = .ok (.iastore, 1) := by decide +kernel
theorem d_Mo_kind_56 : decode b_Mo_kind 56 = .ok (.iconst 1, 1) := by decide +kernel
theorem d_Mo_kind_57 : decode b_Mo_kind 57 = .ok (.ireturn, 1) := by decide +kernel
theorem d_Mo_weightOf_0 : decode b_Mo_weightOf 0 = .ok (.aload_n 0, 1) := by decide +kernel
theorem d_Mo_weightOf_1 : decode b_Mo_weightOf 1 = .ok (.getfield 16, 3) := by decide +kernel
theorem d_Mo_weightOf_4 : decode b_Mo_weightOf 4 = .ok (.iconst 4, 1) := by decide +kernel
theorem d_Mo_weightOf_5 : decode b_Mo_weightOf 5 = .ok (.iload_n 1, 1) := by decide +kernel
theorem d_Mo_weightOf_6 : decode b_Mo_weightOf 6 = .ok (.imul, 1) := by decide +kernel
theorem d_Mo_weightOf_7 : decode b_Mo_weightOf 7 = .ok (.iaload, 1) := by decide +kernel
theorem d_Mo_weightOf_8 : decode b_Mo_weightOf 8 = .ok (.aload_n 0, 1) := by decide +kernel
theorem d_Mo_weightOf_9 : decode b_Mo_weightOf 9 = .ok (.getfield 16, 3) := by decide +kernel
theorem d_Mo_weightOf_12 : decode b_Mo_weightOf 12 = .ok (.iconst 4, 1) := by decide +kernel
theorem d_Mo_weightOf_13 : decode b_Mo_weightOf 13 = .ok (.iload_n 1, 1) := by decide +kernel
theorem d_Mo_weightOf_14 : decode b_Mo_weightOf 14 = .ok (.imul, 1) := by decide +kernel
theorem d_Mo_weightOf_15 : decode b_Mo_weightOf 15 = .ok (.iconst 1, 1) := by decide +kernel
theorem d_Mo_weightOf_16 : decode b_Mo_weightOf 16 = .ok (.iadd, 1) := by decide +kernel
theorem d_Mo_weightOf_17 : decode b_Mo_weightOf 17 = .ok (.iaload, 1) := by decide +kernel
theorem d_Mo_weightOf_18 : decode b_Mo_weightOf 18 = .ok (.iadd, 1) := by decide +kernel
theorem d_Mo_weightOf_19 : decode b_Mo_weightOf 19 = .ok (.aload_n 0, 1) := by decide +kernel
theorem d_Mo_weightOf_20 : decode b_Mo_weightOf 20 = .ok (.getfield 16, 3) := by decide +kernel
theorem d_Mo_weightOf_23 : decode b_Mo_weightOf 23 = .ok (.iconst 4, 1) := by decide +kernel
theorem d_Mo_weightOf_24 : decode b_Mo_weightOf 24 = .ok (.iload_n 1, 1) := by decide +kernel
theorem d_Mo_weightOf_25 : decode b_Mo_weightOf 25 = .ok (.imul, 1) := by decide +kernel
theorem d_Mo_weightOf_26 : decode b_Mo_weightOf 26 = .ok (.iconst 2, 1) := by decide +kernel
theorem d_Mo_weightOf_27 : decode b_Mo_weightOf 27 = .ok (.iadd, 1) := by decide +kernel
theorem d_Mo_weightOf_28 : decode b_Mo_weightOf 28 = .ok (.iaload, 1) := by decide +kernel
theorem d_Mo_weightOf_29 : decode b_Mo_weightOf 29 = .ok (.iadd, 1) := by decide +kernel
theorem d_Mo_weightOf_30 : decode b_Mo_weightOf 30 = .ok (.aload_n 0, 1) := by decide +kernel
theorem d_Mo_weightOf_31 : decode b_Mo_weightOf 31 = .ok (.getfield 16, 3) := by decide +kernel
theorem d_Mo_weightOf_34 : decode b_Mo_weightOf 34 = .ok (.iconst 4, 1) := by decide +kernel
theorem d_Mo_weightOf_35 : decode b_Mo_weightOf 35 = .ok (.iload_n 1, 1) := by decide +kernel
theorem d_Mo_weightOf_36 : decode b_Mo_weightOf 36 = .ok (.imul, 1) := by decide +kernel
theorem d_Mo_weightOf_37 : decode b_Mo_weightOf 37 = .ok (.iconst 3, 1) := by decide +kernel
theorem d_Mo_weightOf_38 : decode b_Mo_weightOf 38 = .ok (.iadd, 1) := by decide +kernel
theorem d_Mo_weightOf_39 : decode b_Mo_weightOf 39 = .ok (.iaload, 1) := by decide +kernel
theorem d_Mo_weightOf_40 : decode b_Mo_weightOf 40 = .ok (.iadd, 1) := by decide +kernel
theorem d_Mo_weightOf_41 : decode b_Mo_weightOf 41 = .ok (.ireturn, 1) := by decide +kernel
theorem d_Mo_bunker_0 : decode b_Mo_bunker 0 = .ok (.iload_n 1, 1) := by decide +kernel
theorem d_Mo_bunker_1 : decode b_Mo_bunker 1 = .ok (.invokestatic 89, 3) := by decide +kernel
theorem d_Mo_bunker_4 : decode b_Mo_bunker 4 = .ok (.ifCond .eq 34, 3) := by decide +kernel
theorem d_Mo_bunker_7 : decode b_Mo_bunker 7 = .ok (.iload_n 2, 1) := by decide +kernel
theorem d_Mo_bunker_8 : decode b_Mo_bunker 8 = .ok (.invokestatic 81, 3) := by decide +kernel
theorem d_Mo_bunker_11 : decode b_Mo_bunker 11 = .ok (.ifCond .eq 27, 3) := by decide +kernel
theorem d_Mo_bunker_14 : decode b_Mo_bunker 14 = .ok (.iload_n 3, 1) := by decide +kernel
theorem d_Mo_bunker_15 : decode b_Mo_bunker 15 = .ok (.i2l, 1) := by decide +kernel
theorem d_Mo_bunker_16 : decode b_Mo_bunker 16 = .ok (.lconst 0, 1) := by decide +kernel
theorem d_Mo_bunker_17 : decode b_Mo_bunker 17 = .ok (.ldc2_w 92, 3) := by decide +kernel
theorem d_Mo_bunker_20 : decode b_Mo_bunker 20 = .ok (.invokestatic 85, 3) := by decide +kernel
theorem d_Mo_bunker_23 : decode b_Mo_bunker 23 = .ok (.ifCond .eq 15, 3) := by decide +kernel
theorem d_Mo_bunker_26 : decode b_Mo_bunker 26 = .ok (.aload_n 0, 1) := by decide +kernel
theorem d_Mo_bunker_27 : decode b_Mo_bunker 27 = .ok (.iload_n 1, 1) := by decide +kernel
theorem d_Mo_bunker_28 : decode b_Mo_bunker 28 = .ok (.invokevirtual 94, 3) := by decide +kernel
theorem d_Mo_bunker_31 : decode b_Mo_bunker 31 = .ok (.iload_n 3, 1) := by decide +kernel
theorem d_Mo_bunker_32 : decode b_Mo_bunker 32 = .ok (.iadd, 1) := by decide +kernel
theorem d_Mo_bunker_33 : decode b_Mo_bunker 33 = .ok (.ldc 98, 2) := by decide +kernel
theorem d_Mo_bunker_35 : decode b_Mo_bunker 35 = .ok (.if_icmp .le 5, 3) := by decide +kernel
theorem d_Mo_bunker_38 : decode b_Mo_bunker 38 = .ok (.iconst 0, 1) := by decide +kernel
theorem d_Mo_bunker_39 : decode b_Mo_bunker 39 = .ok (.ireturn, 1) := by decide +kernel
theorem d_Mo_bunker_40 : decode b_Mo_bunker 40 = .ok (.aload_n 0, 1) := by decide +kernel
theorem d_Mo_bunker_41 : decode b_Mo_bunker 41 = .ok (.getfield 16, 3) := by decide +kernel
theorem d_Mo_bunker_44 : decode b_Mo_bunker 44 = .ok (.iconst 4, 1) := by decide +kernel
theorem d_Mo_bunker_45 : decode b_Mo_bunker 45 = .ok (.iload_n 1, 1) := by decide +kernel
theorem d_Mo_bunker_46 : decode b_Mo_bunker 46 = .ok (.imul, 1) := by decide +kernel
theorem d_Mo_bunker_47 : decode b_Mo_bunker 47 = .ok (.iload_n 2, 1) := by decide +kernel
theorem d_Mo_bunker_48 : decode b_Mo_bunker 48 = .ok (.iadd, 1) := by decide +kernel
theorem d_Mo_bunker_49 : decode b_Mo_bunker 49 = .ok (.dup2, 1) := by decide +kernel
theorem d_Mo_bunker_50 : decode b_Mo_bunker 50 = .ok (.iaload, 1) := by decide +kernel
theorem d_Mo_bunker_51 : decode b_Mo_bunker 51 = .ok (.iload_n 3, 1) := by decide +kernel
theorem d_Mo_bunker_52 : decode b_Mo_bunker 52 = .ok (.iadd, 1) := by decide +kernel
theorem d_Mo_bunker_53 : decode b_Mo_bunker 53 = .ok (.iastore, 1) := by decide +kernel
theorem d_Mo_bunker_54 : decode b_Mo_bunker 54 = .ok (.aload_n 0, 1) := by decide +kernel
theorem d_Mo_bunker_55 : decode b_Mo_bunker 55 = .ok (.getfield 70, 3) := by decide +kernel
theorem d_Mo_bunker_58 : decode b_Mo_bunker 58 = .ok (.iconst 0, 1) := by decide +kernel
theorem d_Mo_bunker_59 : decode b_Mo_bunker 59 = .ok (.dup2, 1) := by decide +kernel
theorem d_Mo_bunker_60 : decode b_Mo_bunker 60 = .ok (.laload, 1) := by decide +kernel
theorem d_Mo_bunker_61 : decode b_Mo_bunker 61 = .ok (.iload_n 3, 1) := by decide +kernel
theorem d_Mo_bunker_62 : decode b_Mo_bunker 62 = .ok (.i2l, 1) := by decide +kernel
theorem d_Mo_bunker_63 : decode b_Mo_bunker 63 = .ok (.ladd, 1) := by decide +kernel
theorem d_Mo_bunker_64 : decode b_Mo_bunker 64 = .ok (.lastore, 1) := by decide +kernel
theorem d_Mo_bunker_65 : decode b_Mo_bunker 65 = .ok (.iconst 1, 1) := by decide +kernel
theorem d_Mo_bunker_66 : decode b_Mo_bunker 66 = .ok (.ireturn, 1) := by decide +kernel
theorem d_Mo_crane_0 : decode b_Mo_crane 0 = .ok (.iload_n 1, 1) := by decide +kernel
theorem d_Mo_crane_1 : decode b_Mo_crane 1 = .ok (.i2l, 1) := by decide +kernel
theorem d_Mo_crane_2 : decode b_Mo_crane 2 = .ok (.lconst 1, 1) := by decide +kernel
theorem d_Mo_crane_3 : decode b_Mo_crane 3 = .ok (.ldc2_w 99, 3) := by decide +kernel
theorem d_Mo_crane_6 : decode b_Mo_crane 6 = .ok (.invokestatic 85, 3) := by decide +kernel
theorem d_Mo_crane_9 : decode b_Mo_crane 9 = .ok (.ifCond .ne 5, 3) := by decide +kernel
theorem d_Mo_crane_12 : decode b_Mo_crane 12 = .ok (.iconst 0, 1) := by decide +kernel
theorem d_Mo_crane_13 : decode b_Mo_crane 13 = .ok (.ireturn, 1) := by decide +kernel
theorem d_Mo_crane_14 : decode b_Mo_crane 14 = .ok (.aload_n 0, 1) := by decide +kernel
theorem d_Mo_crane_15 : decode b_Mo_crane 15 = .ok (.iload_n 1, 1) := by decide +kernel
theorem d_Mo_crane_16 : decode b_Mo_crane 16 = .ok (.putfield 19, 3) := by decide +kernel
theorem d_Mo_crane_19 : decode b_Mo_crane 19 = .ok (.iconst 1, 1) := by decide +kernel
theorem d_Mo_crane_20 : decode b_Mo_crane 20 = .ok (.ireturn, 1) := by decide +kernel
theorem d_Mo_take_0 : decode b_Mo_take 0 = .ok (.aload_n 0, 1) := by decide +kernel
theorem d_Mo_take_1 : decode b_Mo_take 1 = .ok (.getfield 16, 3) := by decide +kernel
theorem d_Mo_take_4 : decode b_Mo_take 4 = .ok (.iconst 4, 1) := by decide +kernel
theorem d_Mo_take_5 : decode b_Mo_take 5 = .ok (.iload_n 1, 1) := by decide +kernel
theorem d_Mo_take_6 : decode b_Mo_take 6 = .ok (.imul, 1) := by decide +kernel
theorem d_Mo_take_7 : decode b_Mo_take 7 = .ok (.iload_n 2, 1) := by decide +kernel
theorem d_Mo_take_8 : decode b_Mo_take 8 = .ok (.iadd, 1) := by decide +kernel
theorem d_Mo_take_9 : decode b_Mo_take 9 = .ok (.dup2, 1) := by decide +kernel
theorem d_Mo_take_10 : decode b_Mo_take 10 = .ok (.iaload, 1) := by decide +kernel
theorem d_Mo_take_11 : decode b_Mo_take 11 = .ok (.iload_n 3, 1) := by decide +kernel
theorem d_Mo_take_12 : decode b_Mo_take 12 = .ok (.isub, 1) := by decide +kernel
theorem d_Mo_take_13 : decode b_Mo_take 13 = .ok (.iastore, 1) := by decide +kernel
theorem d_Mo_take_14 : decode b_Mo_take 14 = .ok (.aload_n 0, 1) := by decide +kernel
theorem d_Mo_take_15 : decode b_Mo_take 15 = .ok (.getfield 23, 3) := by decide +kernel
theorem d_Mo_take_18 : decode b_Mo_take 18 = .ok (.iload_n 2, 1) := by decide +kernel
theorem d_Mo_take_19 : decode b_Mo_take 19 = .ok (.dup2, 1) := by decide +kernel
theorem d_Mo_take_20 : decode b_Mo_take 20 = .ok (.iaload, 1) := by decide +kernel
theorem d_Mo_take_21 : decode b_Mo_take 21 = .ok (.iload_n 3, 1) := by decide +kernel
theorem d_Mo_take_22 : decode b_Mo_take 22 = .ok (.iadd, 1) := by decide +kernel
theorem d_Mo_take_23 : decode b_Mo_take 23 = .ok (.iastore, 1) := by decide +kernel
theorem d_Mo_take_24 : decode b_Mo_take 24 = .ok (.return_, 1) := by decide +kernel
theorem d_Mo_grab_0 : decode b_Mo_grab 0 = .ok (.iload_n 1, 1) := by decide +kernel
theorem d_Mo_grab_1 : decode b_Mo_grab 1 = .ok (.invokestatic 89, 3) := by decide +kernel
theorem d_Mo_grab_4 : decode b_Mo_grab 4 = .ok (.ifCond .ne 5, 3) := by decide +kernel
theorem d_Mo_grab_7 : decode b_Mo_grab 7 = .ok (.iconst (-1), 1) := by decide +kernel
theorem d_Mo_grab_8 : decode b_Mo_grab 8 = .ok (.ireturn, 1) := by decide +kernel
theorem d_Mo_grab_9 : decode b_Mo_grab 9 = .ok (.aload_n 0, 1) := by decide +kernel
theorem d_Mo_grab_10 : decode b_Mo_grab 10 = .ok (.iload_n 1, 1) := by decide +kernel
theorem d_Mo_grab_11 : decode b_Mo_grab 11 = .ok (.invokevirtual 94, 3) := by decide +kernel
theorem d_Mo_grab_14 : decode b_Mo_grab 14 = .ok (.istore_n 2, 1) := by decide +kernel
theorem d_Mo_grab_15 : decode b_Mo_grab 15 = .ok (.aload_n 0, 1) := by decide +kernel
theorem d_Mo_grab_16 : decode b_Mo_grab 16 = .ok (.getfield 19, 3) := by decide +kernel
theorem d_Mo_grab_19 : decode b_Mo_grab 19 = .ok (.iload_n 2, 1) := by decide +kernel
theorem d_Mo_grab_20 : decode b_Mo_grab 20 = .ok (.if_icmp .ge 10, 3) := by decide +kernel
theorem d_Mo_grab_23 : decode b_Mo_grab 23 = .ok (.aload_n 0, 1) := by decide +kernel
theorem d_Mo_grab_24 : decode b_Mo_grab 24 = .ok (.getfield 19, 3) := by decide +kernel
theorem d_Mo_grab_27 : decode b_Mo_grab 27 = .ok (.goto 4, 3) := by decide +kernel
theorem d_Mo_grab_30 : decode b_Mo_grab 30 = .ok (.iload_n 2, 1) := by decide +kernel
theorem d_Mo_grab_31 : decode b_Mo_grab 31 = .ok (.istore_n 3, 1) := by decide +kernel
theorem d_Mo_grab_32 : decode b_Mo_grab 32 = .ok (.iload_n 3, 1) := by decide +kernel
theorem d_Mo_grab_33 : decode b_Mo_grab 33 = .ok (.istore 4, 2) := by decide +kernel
theorem d_Mo_grab_35 : decode b_Mo_grab 35 = .ok (.iconst 0, 1) := by decide +kernel
theorem d_Mo_grab_36 : decode b_Mo_grab 36 = .ok (.istore 5, 2) := by decide +kernel
theorem d_Mo_grab_38 : decode b_Mo_grab 38 = .ok (.iload 5, 2) := by decide +kernel
theorem d_Mo_grab_40 : decode b_Mo_grab 40 = .ok (.iconst 4, 1) := by decide +kernel
theorem d_Mo_grab_41 : decode b_Mo_grab 41 = .ok (.if_icmp .ge 50, 3) := by decide +kernel
theorem d_Mo_grab_44 : decode b_Mo_grab 44 = .ok (.iload_n 2, 1) := by decide +kernel
theorem d_Mo_grab_45 : decode b_Mo_grab 45 = .ok (.ifCond .le 46, 3) := by decide +kernel
theorem d_Mo_grab_48 : decode b_Mo_grab 48 = .ok (.aload_n 0, 1) := by decide +kernel
theorem d_Mo_grab_49 : decode b_Mo_grab 49 = .ok (.getfield 16, 3) := by decide +kernel
theorem d_Mo_grab_52 : decode b_Mo_grab 52 = .ok (.iconst 4, 1) := by decide +kernel
theorem d_Mo_grab_53 : decode b_Mo_grab 53 = .ok (.iload_n 1, 1) := by decide +kernel
theorem d_Mo_grab_54 : decode b_Mo_grab 54 = .ok (.imul, 1) := by decide +kernel
theorem d_Mo_grab_55 : decode b_Mo_grab 55 = .ok (.iload 5, 2) := by decide +kernel
theorem d_Mo_grab_57 : decode b_Mo_grab 57 = .ok (.iadd, 1) := by decide +kernel
theorem d_Mo_grab_58 : decode b_Mo_grab 58 = .ok (.iaload, 1) := by decide +kernel
theorem d_Mo_grab_59 : decode b_Mo_grab 59 = .ok (.i2l, 1) := by decide +kernel
theorem d_Mo_grab_60 : decode b_Mo_grab 60 = .ok (.iload_n 3, 1) := by decide +kernel
theorem d_Mo_grab_61 : decode b_Mo_grab 61 = .ok (.i2l, 1) := by decide +kernel
theorem d_Mo_grab_62 : decode b_Mo_grab 62 = .ok (.lmul, 1) := by decide +kernel
theorem d_Mo_grab_63 : decode b_Mo_grab 63 = .ok (.iload_n 2, 1) := by decide +kernel
theorem d_Mo_grab_64 : decode b_Mo_grab 64 = .ok (.i2l, 1) := by decide +kernel
theorem d_Mo_grab_65 : decode b_Mo_grab 65 = .ok (.ldiv, 1) := by decide +kernel
theorem d_Mo_grab_66 : decode b_Mo_grab 66 = .ok (.l2i, 1) := by decide +kernel
theorem d_Mo_grab_67 : decode b_Mo_grab 67 = .ok (.istore 6, 2) := by decide +kernel
theorem d_Mo_grab_69 : decode b_Mo_grab 69 = .ok (.aload_n 0, 1) := by decide +kernel
theorem d_Mo_grab_70 : decode b_Mo_grab 70 = .ok (.iload_n 1, 1) := by decide +kernel
theorem d_Mo_grab_71 : decode b_Mo_grab 71 = .ok (.iload 5, 2) := by decide +kernel
theorem d_Mo_grab_73 : decode b_Mo_grab 73 = .ok (.iload 6, 2) := by decide +kernel
theorem d_Mo_grab_75 : decode b_Mo_grab 75 = .ok (.invokevirtual 101, 3) := by decide +kernel
theorem d_Mo_grab_78 : decode b_Mo_grab 78 = .ok (.iload 4, 2) := by decide +kernel
theorem d_Mo_grab_80 : decode b_Mo_grab 80 = .ok (.iload 6, 2) := by decide +kernel
theorem d_Mo_grab_82 : decode b_Mo_grab 82 = .ok (.isub, 1) := by decide +kernel
theorem d_Mo_grab_83 : decode b_Mo_grab 83 = .ok (.istore 4, 2) := by decide +kernel
theorem d_Mo_grab_85 : decode b_Mo_grab 85 = .ok (.iinc 5 1, 3) := by decide +kernel
theorem d_Mo_grab_88 : decode b_Mo_grab 88 = .ok (.goto (-50), 3) := by decide +kernel
theorem d_Mo_grab_91 : decode b_Mo_grab 91 = .ok (.iconst 0, 1) := by decide +kernel
theorem d_Mo_grab_92 : decode b_Mo_grab 92 = .ok (.istore 5, 2) := by decide +kernel
theorem d_Mo_grab_94 : decode b_Mo_grab 94 = .ok (.iload 4, 2) := by decide +kernel
theorem d_Mo_grab_96 : decode b_Mo_grab 96 = .ok (.ifCond .le 39, 3) := by decide +kernel
theorem d_Mo_grab_99 : decode b_Mo_grab 99 = .ok (.aload_n 0, 1) := by decide +kernel
theorem d_Mo_grab_100 : decode b_Mo_grab 100 = .ok (.getfield 16, 3) := by decide +kernel
theorem d_Mo_grab_103 : decode b_Mo_grab 103 = .ok (.iconst 4, 1) := by decide +kernel
theorem d_Mo_grab_104 : decode b_Mo_grab 104 = .ok (.iload_n 1, 1) := by decide +kernel
theorem d_Mo_grab_105 : decode b_Mo_grab 105 = .ok (.imul, 1) := by decide +kernel
theorem d_Mo_grab_106 : decode b_Mo_grab 106 = .ok (.iload 5, 2) := by decide +kernel
theorem d_Mo_grab_108 : decode b_Mo_grab 108 = .ok (.iadd, 1) := by decide +kernel
theorem d_Mo_grab_109 : decode b_Mo_grab 109 = .ok (.iaload, 1) := by decide +kernel
theorem d_Mo_grab_110 : decode b_Mo_grab 110 = .ok (.ifCond .le 14, 3) := by decide +kernel
theorem d_Mo_grab_113 : decode b_Mo_grab 113 = .ok (.aload_n 0, 1) := by decide +kernel
theorem d_Mo_grab_114 : decode b_Mo_grab 114 = .ok (.iload_n 1, 1) := by decide +kernel
theorem d_Mo_grab_115 : decode b_Mo_grab 115 = .ok (.iload 5, 2) := by decide +kernel
theorem d_Mo_grab_117 : decode b_Mo_grab 117 = .ok (.iconst 1, 1) := by decide +kernel
theorem d_Mo_grab_118 : decode b_Mo_grab 118 = .ok (.invokevirtual 101, 3) := by decide +kernel
theorem d_Mo_grab_121 : decode b_Mo_grab 121 = .ok (.iinc 4 (-1), 3) := by decide +kernel
theorem d_Mo_grab_124 : decode b_Mo_grab 124 = .ok (.iload 5, 2) := by decide +kernel
theorem d_Mo_grab_126 : decode b_Mo_grab 126 = .ok (.iconst 1, 1) := by decide +kernel
theorem d_Mo_grab_127 : decode b_Mo_grab 127 = .ok (.iadd, 1) := by decide +kernel
theorem d_Mo_grab_128 : decode b_Mo_grab 128 = .ok (.iconst 4, 1) := by decide +kernel
theorem d_Mo_grab_129 : decode b_Mo_grab 129 = .ok (.irem, 1) := by decide +kernel
theorem d_Mo_grab_130 : decode b_Mo_grab 130 = .ok (.istore 5, 2) := by decide +kernel
theorem d_Mo_grab_132 : decode b_Mo_grab 132 = .ok (.goto (-38), 3) := by decide +kernel
theorem d_Mo_grab_135 : decode b_Mo_grab 135 = .ok (.iload_n 3, 1) := by decide +kernel
theorem d_Mo_grab_136 : decode b_Mo_grab 136 = .ok (.ireturn, 1) := by decide +kernel
theorem d_Mo_share_0 : decode b_Mo_share 0 = .ok (.iload_n 1, 1) := by decide +kernel
theorem d_Mo_share_1 : decode b_Mo_share 1 = .ok (.invokestatic 89, 3) := by decide +kernel
theorem d_Mo_share_4 : decode b_Mo_share 4 = .ok (.ifCond .eq 23, 3) := by decide +kernel
theorem d_Mo_share_7 : decode b_Mo_share 7 = .ok (.iload_n 2, 1) := by decide +kernel
theorem d_Mo_share_8 : decode b_Mo_share 8 = .ok (.invokestatic 81, 3) := by decide +kernel
theorem d_Mo_share_11 : decode b_Mo_share 11 = .ok (.ifCond .eq 16, 3) := by decide +kernel
theorem d_Mo_share_14 : decode b_Mo_share 14 = .ok (.aload_n 0, 1) := by decide +kernel
theorem d_Mo_share_15 : decode b_Mo_share 15 = .ok (.getfield 16, 3) := by decide +kernel
theorem d_Mo_share_18 : decode b_Mo_share 18 = .ok (.iconst 4, 1) := by decide +kernel
theorem d_Mo_share_19 : decode b_Mo_share 19 = .ok (.iload_n 1, 1) := by decide +kernel
theorem d_Mo_share_20 : decode b_Mo_share 20 = .ok (.imul, 1) := by decide +kernel
theorem d_Mo_share_21 : decode b_Mo_share 21 = .ok (.iload_n 2, 1) := by decide +kernel
theorem d_Mo_share_22 : decode b_Mo_share 22 = .ok (.iadd, 1) := by decide +kernel
theorem d_Mo_share_23 : decode b_Mo_share 23 = .ok (.iaload, 1) := by decide +kernel
theorem d_Mo_share_24 : decode b_Mo_share 24 = .ok (.goto 4, 3) := by decide +kernel
theorem d_Mo_share_27 : decode b_Mo_share 27 = .ok (.iconst (-1), 1) := by decide +kernel
theorem d_Mo_share_28 : decode b_Mo_share 28 = .ok (.ireturn, 1) := by decide +kernel
theorem d_Mo_air_0 : decode b_Mo_air 0 = .ok (.aload_n 0, 1) := by decide +kernel
theorem d_Mo_air_1 : decode b_Mo_air 1 = .ok (.iload_n 1, 1) := by decide +kernel
theorem d_Mo_air_2 : decode b_Mo_air 2 = .ok (.invokevirtual 105, 3) := by decide +kernel
theorem d_Mo_air_5 : decode b_Mo_air 5 = .ok (.ifCond .eq 27, 3) := by decide +kernel
theorem d_Mo_air_8 : decode b_Mo_air 8 = .ok (.iload_n 2, 1) := by decide +kernel
theorem d_Mo_air_9 : decode b_Mo_air 9 = .ok (.i2l, 1) := by decide +kernel
theorem d_Mo_air_10 : decode b_Mo_air 10 = .ok (.lconst 0, 1) := by decide +kernel
theorem d_Mo_air_11 : decode b_Mo_air 11 = .ok (.ldc2_w 92, 3) := by decide +kernel
theorem d_Mo_air_14 : decode b_Mo_air 14 = .ok (.invokestatic 85, 3) := by decide +kernel
theorem d_Mo_air_17 : decode b_Mo_air 17 = .ok (.ifCond .eq 15, 3) := by decide +kernel
theorem d_Mo_air_20 : decode b_Mo_air 20 = .ok (.iload_n 3, 1) := by decide +kernel
theorem d_Mo_air_21 : decode b_Mo_air 21 = .ok (.i2l, 1) := by decide +kernel
theorem d_Mo_air_22 : decode b_Mo_air 22 = .ok (.lconst 0, 1) := by decide +kernel
theorem d_Mo_air_23 : decode b_Mo_air 23 = .ok (.ldc2_w 79, 3) := by decide +kernel
theorem d_Mo_air_26 : decode b_Mo_air 26 = .ok (.invokestatic 85, 3) := by decide +kernel
theorem d_Mo_air_29 : decode b_Mo_air 29 = .ok (.ifCond .ne 5, 3) := by decide +kernel
theorem d_Mo_air_32 : decode b_Mo_air 32 = .ok (.iconst 0, 1) := by decide +kernel
theorem d_Mo_air_33 : decode b_Mo_air 33 = .ok (.ireturn, 1) := by decide +kernel
theorem d_Mo_air_34 : decode b_Mo_air 34 = .ok (.aload_n 0, 1) := by decide +kernel
theorem d_Mo_air_35 : decode b_Mo_air 35 = .ok (.getfield 36, 3) := by decide +kernel
theorem d_Mo_air_38 : decode b_Mo_air 38 = .ok (.iload_n 1, 1) := by decide +kernel
theorem d_Mo_air_39 : decode b_Mo_air 39 = .ok (.iload_n 2, 1) := by decide +kernel
theorem d_Mo_air_40 : decode b_Mo_air 40 = .ok (.iastore, 1) := by decide +kernel
theorem d_Mo_air_41 : decode b_Mo_air 41 = .ok (.aload_n 0, 1) := by decide +kernel
theorem d_Mo_air_42 : decode b_Mo_air 42 = .ok (.getfield 39, 3) := by decide +kernel
theorem d_Mo_air_45 : decode b_Mo_air 45 = .ok (.iload_n 1, 1) := by decide +kernel
theorem d_Mo_air_46 : decode b_Mo_air 46 = .ok (.iload_n 3, 1) := by decide +kernel
theorem d_Mo_air_47 : decode b_Mo_air 47 = .ok (.iastore, 1) := by decide +kernel
theorem d_Mo_air_48 : decode b_Mo_air 48 = .ok (.iconst 1, 1) := by decide +kernel
theorem d_Mo_air_49 : decode b_Mo_air 49 = .ok (.ireturn, 1) := by decide +kernel
theorem d_Mo_set_0 : decode b_Mo_set 0 = .ok (.iload_n 1, 1) := by decide +kernel
theorem d_Mo_set_1 : decode b_Mo_set 1 = .ok (.i2l, 1) := by decide +kernel
theorem d_Mo_set_2 : decode b_Mo_set 2 = .ok (.lconst 0, 1) := by decide +kernel
theorem d_Mo_set_3 : decode b_Mo_set 3 = .ok (.ldc2_w 79, 3) := by decide +kernel
theorem d_Mo_set_6 : decode b_Mo_set 6 = .ok (.invokestatic 85, 3) := by decide +kernel
theorem d_Mo_set_9 : decode b_Mo_set 9 = .ok (.ifCond .eq 15, 3) := by decide +kernel
theorem d_Mo_set_12 : decode b_Mo_set 12 = .ok (.iload_n 2, 1) := by decide +kernel
theorem d_Mo_set_13 : decode b_Mo_set 13 = .ok (.i2l, 1) := by decide +kernel
theorem d_Mo_set_14 : decode b_Mo_set 14 = .ok (.lconst 0, 1) := by decide +kernel
theorem d_Mo_set_15 : decode b_Mo_set 15 = .ok (.ldc2_w 79, 3) := by decide +kernel
theorem d_Mo_set_18 : decode b_Mo_set 18 = .ok (.invokestatic 85, 3) := by decide +kernel
theorem d_Mo_set_21 : decode b_Mo_set 21 = .ok (.ifCond .ne 5, 3) := by decide +kernel
theorem d_Mo_set_24 : decode b_Mo_set 24 = .ok (.iconst 0, 1) := by decide +kernel
theorem d_Mo_set_25 : decode b_Mo_set 25 = .ok (.ireturn, 1) := by decide +kernel
theorem d_Mo_set_26 : decode b_Mo_set 26 = .ok (.aload_n 0, 1) := by decide +kernel
theorem d_Mo_set_27 : decode b_Mo_set 27 = .ok (.iload_n 1, 1) := by decide +kernel
theorem d_Mo_set_28 : decode b_Mo_set 28 = .ok (.putfield 42, 3) := by decide +kernel
theorem d_Mo_set_31 : decode b_Mo_set 31 = .ok (.aload_n 0, 1) := by decide +kernel
theorem d_Mo_set_32 : decode b_Mo_set 32 = .ok (.iload_n 2, 1) := by decide +kernel
theorem d_Mo_set_33 : decode b_Mo_set 33 = .ok (.putfield 45, 3) := by decide +kernel
theorem d_Mo_set_36 : decode b_Mo_set 36 = .ok (.iconst 1, 1) := by decide +kernel
theorem d_Mo_set_37 : decode b_Mo_set 37 = .ok (.ireturn, 1) := by decide +kernel
theorem d_Mo_control_0 : decode b_Mo_control 0 = .ok (.iload_n 1, 1) := by decide +kernel
theorem d_Mo_control_1 : decode b_Mo_control 1 = .ok (.i2l, 1) := by decide +kernel
theorem d_Mo_control_2 : decode b_Mo_control 2 = .ok (.lconst 0, 1) := by decide +kernel
theorem d_Mo_control_3 : decode b_Mo_control 3 = .ok (.lconst 1, 1) := by decide +kernel
theorem d_Mo_control_4 : decode b_Mo_control 4 = .ok (.invokestatic 85, 3) := by decide +kernel
theorem d_Mo_control_7 : decode b_Mo_control 7 = .ok (.ifCond .eq 44, 3) := by decide +kernel
theorem d_Mo_control_10 : decode b_Mo_control 10 = .ok (.iload_n 2, 1) := by decide +kernel
theorem d_Mo_control_11 : decode b_Mo_control 11 = .ok (.i2l, 1) := by decide +kernel
theorem d_Mo_control_12 : decode b_Mo_control 12 = .ok (.lconst 0, 1) := by decide +kernel
theorem d_Mo_control_13 : decode b_Mo_control 13 = .ok (.ldc2_w 108, 3) := by decide +kernel
theorem d_Mo_control_16 : decode b_Mo_control 16 = .ok (.invokestatic 85, 3) := by decide +kernel
theorem d_Mo_control_19 : decode b_Mo_control 19 = .ok (.ifCond .eq 32, 3) := by decide +kernel
theorem d_Mo_control_22 : decode b_Mo_control 22 = .ok (.iload_n 3, 1) := by decide +kernel
theorem d_Mo_control_23 : decode b_Mo_control 23 = .ok (.i2l, 1) := by decide +kernel
theorem d_Mo_control_24 : decode b_Mo_control 24 = .ok (.ldc2_w 110, 3) := by decide +kernel
theorem d_Mo_control_27 : decode b_Mo_control 27 = .ok (.ldc2_w 79, 3) := by decide +kernel
theorem d_Mo_control_30 : decode b_Mo_control 30 = .ok (.invokestatic 85, 3) := by decide +kernel
theorem d_Mo_control_33 : decode b_Mo_control 33 = .ok (.ifCond .eq 18, 3) := by decide +kernel
theorem d_Mo_control_36 : decode b_Mo_control 36 = .ok (.iload 4, 2) := by decide +kernel
theorem d_Mo_control_38 : decode b_Mo_control 38 = .ok (.i2l, 1) := by decide +kernel
theorem d_Mo_control_39 : decode b_Mo_control 39 = .ok (.ldc2_w 110, 3) := by decide +kernel
theorem d_Mo_control_42 : decode b_Mo_control 42 = .ok (.ldc2_w 79, 3) := by decide +kernel
theorem d_Mo_control_45 : decode b_Mo_control 45 = .ok (.invokestatic 85, 3) := by decide +kernel
theorem d_Mo_control_48 : decode b_Mo_control 48 = .ok (.ifCond .ne 5, 3) := by decide +kernel
theorem d_Mo_control_51 : decode b_Mo_control 51 = .ok (.iconst 0, 1) := by decide +kernel
theorem d_Mo_control_52 : decode b_Mo_control 52 = .ok (.ireturn, 1) := by decide +kernel
theorem d_Mo_control_53 : decode b_Mo_control 53 = .ok (.aload_n 0, 1) := by decide +kernel
theorem d_Mo_control_54 : decode b_Mo_control 54 = .ok (.getfield 48, 3) := by decide +kernel
theorem d_Mo_control_57 : decode b_Mo_control 57 = .ok (.iload_n 1, 1) := by decide +kernel
theorem d_Mo_control_58 : decode b_Mo_control 58 = .ok (.iconst 1, 1) := by decide +kernel
theorem d_Mo_control_59 : decode b_Mo_control 59 = .ok (.bastore, 1) := by decide +kernel
theorem d_Mo_control_60 : decode b_Mo_control 60 = .ok (.aload_n 0, 1) := by decide +kernel
theorem d_Mo_control_61 : decode b_Mo_control 61 = .ok (.getfield 52, 3) := by decide +kernel
theorem d_Mo_control_64 : decode b_Mo_control 64 = .ok (.iload_n 1, 1) := by decide +kernel
theorem d_Mo_control_65 : decode b_Mo_control 65 = .ok (.iload_n 2, 1) := by decide +kernel
theorem d_Mo_control_66 : decode b_Mo_control 66 = .ok (.iastore, 1) := by decide +kernel
theorem d_Mo_control_67 : decode b_Mo_control 67 = .ok (.aload_n 0, 1) := by decide +kernel
theorem d_Mo_control_68 : decode b_Mo_control 68 = .ok (.getfield 55, 3) := by decide +kernel
theorem d_Mo_control_71 : decode b_Mo_control 71 = .ok (.iload_n 1, 1) := by decide +kernel
theorem d_Mo_control_72 : decode b_Mo_control 72 = .ok (.iload_n 3, 1) := by decide +kernel
theorem d_Mo_control_73 : decode b_Mo_control 73 = .ok (.iastore, 1) := by decide +kernel
theorem d_Mo_control_74 : decode b_Mo_control 74 = .ok (.aload_n 0, 1) := by decide +kernel
theorem d_Mo_control_75 : decode b_Mo_control 75 = .ok (.getfield 58, 3) := by decide +kernel
theorem d_Mo_control_78 : decode b_Mo_control 78 = .ok (.iload_n 1, 1) := by decide +kernel
theorem d_Mo_control_79 : decode b_Mo_control 79 = .ok (.iload 4, 2) := by decide +kernel
theorem d_Mo_control_81 : decode b_Mo_control 81 = .ok (.iastore, 1) := by decide +kernel
theorem d_Mo_control_82 : decode b_Mo_control 82 = .ok (.aload_n 0, 1) := by decide +kernel
theorem d_Mo_control_83 : decode b_Mo_control 83 = .ok (.getfield 61, 3) := by decide +kernel
theorem d_Mo_control_86 : decode b_Mo_control 86 = .ok (.iload_n 1, 1) := by decide +kernel
theorem d_Mo_control_87 : decode b_Mo_control 87 = .ok (.lconst 0, 1) := by decide +kernel
theorem d_Mo_control_88 : decode b_Mo_control 88 = .ok (.lastore, 1) := by decide +kernel
theorem d_Mo_control_89 : decode b_Mo_control 89 = .ok (.aload_n 0, 1) := by decide +kernel
theorem d_Mo_control_90 : decode b_Mo_control 90 = .ok (.getfield 64, 3) := by decide +kernel
theorem d_Mo_control_93 : decode b_Mo_control 93 = .ok (.iload_n 1, 1) := by decide +kernel
theorem d_Mo_control_94 : decode b_Mo_control 94 = .ok (.iconst 0, 1) := by decide +kernel
theorem d_Mo_control_95 : decode b_Mo_control 95 = .ok (.iastore, 1) := by decide +kernel
theorem d_Mo_control_96 : decode b_Mo_control 96 = .ok (.iconst 1, 1) := by decide +kernel
theorem d_Mo_control_97 : decode b_Mo_control 97 = .ok (.ireturn, 1) := by decide +kernel
theorem d_Mo_burner_0 : decode b_Mo_burner 0 = .ok (.iload_n 1, 1) := by decide +kernel
theorem d_Mo_burner_1 : decode b_Mo_burner 1 = .ok (.i2l, 1) := by decide +kernel
theorem d_Mo_burner_2 : decode b_Mo_burner 2 = .ok (.lconst 0, 1) := by decide +kernel
theorem d_Mo_burner_3 : decode b_Mo_burner 3 = .ok (.ldc2_w 108, 3) := by decide +kernel
theorem d_Mo_burner_6 : decode b_Mo_burner 6 = .ok (.invokestatic 85, 3) := by decide +kernel
theorem d_Mo_burner_9 : decode b_Mo_burner 9 = .ok (.ifCond .eq 15, 3) := by decide +kernel
theorem d_Mo_burner_12 : decode b_Mo_burner 12 = .ok (.iload_n 2, 1) := by decide +kernel
theorem d_Mo_burner_13 : decode b_Mo_burner 13 = .ok (.i2l, 1) := by decide +kernel
theorem d_Mo_burner_14 : decode b_Mo_burner 14 = .ok (.lconst 0, 1) := by decide +kernel
theorem d_Mo_burner_15 : decode b_Mo_burner 15 = .ok (.ldc2_w 112, 3) := by decide +kernel
theorem d_Mo_burner_18 : decode b_Mo_burner 18 = .ok (.invokestatic 85, 3) := by decide +kernel
theorem d_Mo_burner_21 : decode b_Mo_burner 21 = .ok (.ifCond .ne 5, 3) := by decide +kernel
theorem d_Mo_burner_24 : decode b_Mo_burner 24 = .ok (.iconst 0, 1) := by decide +kernel
theorem d_Mo_burner_25 : decode b_Mo_burner 25 = .ok (.ireturn, 1) := by decide +kernel
theorem d_Mo_burner_26 : decode b_Mo_burner 26 = .ok (.aload_n 0, 1) := by decide +kernel
theorem d_Mo_burner_27 : decode b_Mo_burner 27 = .ok (.iconst 1, 1) := by decide +kernel
theorem d_Mo_burner_28 : decode b_Mo_burner 28 = .ok (.putfield 114, 3) := by decide +kernel
theorem d_Mo_burner_31 : decode b_Mo_burner 31 = .ok (.aload_n 0, 1) := by decide +kernel
theorem d_Mo_burner_32 : decode b_Mo_burner 32 = .ok (.iload_n 1, 1) := by decide +kernel
theorem d_Mo_burner_33 : decode b_Mo_burner 33 = .ok (.putfield 118, 3) := by decide +kernel
theorem d_Mo_burner_36 : decode b_Mo_burner 36 = .ok (.aload_n 0, 1) := by decide +kernel
theorem d_Mo_burner_37 : decode b_Mo_burner 37 = .ok (.iload_n 2, 1) := by decide +kernel
theorem d_Mo_burner_38 : decode b_Mo_burner 38 = .ok (.putfield 121, 3) := by decide +kernel
theorem d_Mo_burner_41 : decode b_Mo_burner 41 = .ok (.iconst 1, 1) := by decide +kernel
theorem d_Mo_burner_42 : decode b_Mo_burner 42 = .ok (.ireturn, 1) := by decide +kernel
theorem d_Mo_moves_0 : decode b_Mo_moves 0 = .ok (.aload_n 0, 1) := by decide +kernel
theorem d_Mo_moves_1 : decode b_Mo_moves 1 = .ok (.getfield 76, 3) := by decide +kernel
theorem d_Mo_moves_4 : decode b_Mo_moves 4 = .ok (.iconst 1, 1) := by decide +kernel
theorem d_Mo_moves_5 : decode b_Mo_moves 5 = .ok (.isub, 1) := by decide +kernel
theorem d_Mo_moves_6 : decode b_Mo_moves 6 = .ok (.istore_n 1, 1) := by decide +kernel
theorem d_Mo_moves_7 : decode b_Mo_moves 7 = .ok (.iload_n 1, 1) := by decide +kernel
theorem d_Mo_moves_8 : decode b_Mo_moves 8 = .ok (.ifCond .lt 163, 3) := by decide +kernel
theorem d_Mo_moves_11 : decode b_Mo_moves 11 = .ok (.aload_n 0, 1) := by decide +kernel
theorem d_Mo_moves_12 : decode b_Mo_moves 12 = .ok (.getfield 26, 3) := by decide +kernel
theorem d_Mo_moves_15 : decode b_Mo_moves 15 = .ok (.iload_n 1, 1) := by decide +kernel
theorem d_Mo_moves_16 : decode b_Mo_moves 16 = .ok (.laload, 1) := by decide +kernel
theorem d_Mo_moves_17 : decode b_Mo_moves 17 = .ok (.aload_n 0, 1) := by decide +kernel
theorem d_Mo_moves_18 : decode b_Mo_moves 18 = .ok (.getfield 42, 3) := by decide +kernel
theorem d_Mo_moves_21 : decode b_Mo_moves 21 = .ok (.i2l, 1) := by decide +kernel
theorem d_Mo_moves_22 : decode b_Mo_moves 22 = .ok (.invokestatic 124, 3) := by decide +kernel
theorem d_Mo_moves_25 : decode b_Mo_moves 25 = .ok (.lstore_n 2, 1) := by decide +kernel
theorem d_Mo_moves_26 : decode b_Mo_moves 26 = .ok (.aload_n 0, 1) := by decide +kernel
theorem d_Mo_moves_27 : decode b_Mo_moves 27 = .ok (.getfield 30, 3) := by decide +kernel
theorem d_Mo_moves_30 : decode b_Mo_moves 30 = .ok (.iload_n 1, 1) := by decide +kernel
theorem d_Mo_moves_31 : decode b_Mo_moves 31 = .ok (.laload, 1) := by decide +kernel
theorem d_Mo_moves_32 : decode b_Mo_moves 32 = .ok (.aload_n 0, 1) := by decide +kernel
theorem d_Mo_moves_33 : decode b_Mo_moves 33 = .ok (.getfield 42, 3) := by decide +kernel
theorem d_Mo_moves_36 : decode b_Mo_moves 36 = .ok (.i2l, 1) := by decide +kernel
theorem d_Mo_moves_37 : decode b_Mo_moves 37 = .ok (.invokestatic 124, 3) := by decide +kernel
theorem d_Mo_moves_40 : decode b_Mo_moves 40 = .ok (.lstore 4, 2) := by decide +kernel
theorem d_Mo_moves_42 : decode b_Mo_moves 42 = .ok (.aload_n 0, 1) := by decide +kernel
theorem d_Mo_moves_43 : decode b_Mo_moves 43 = .ok (.getfield 33, 3) := by decide +kernel
theorem d_Mo_moves_46 : decode b_Mo_moves 46 = .ok (.iload_n 1, 1) := by decide +kernel
theorem d_Mo_moves_47 : decode b_Mo_moves 47 = .ok (.laload, 1) := by decide +kernel
theorem d_Mo_moves_48 : decode b_Mo_moves 48 = .ok (.aload_n 0, 1) := by decide +kernel
theorem d_Mo_moves_49 : decode b_Mo_moves 49 = .ok (.getfield 42, 3) := by decide +kernel
theorem d_Mo_moves_52 : decode b_Mo_moves 52 = .ok (.i2l, 1) := by decide +kernel
theorem d_Mo_moves_53 : decode b_Mo_moves 53 = .ok (.invokestatic 124, 3) := by decide +kernel
theorem d_Mo_moves_56 : decode b_Mo_moves 56 = .ok (.lstore 6, 2) := by decide +kernel
theorem d_Mo_moves_58 : decode b_Mo_moves 58 = .ok (.aload_n 0, 1) := by decide +kernel
theorem d_Mo_moves_59 : decode b_Mo_moves 59 = .ok (.getfield 26, 3) := by decide +kernel
theorem d_Mo_moves_62 : decode b_Mo_moves 62 = .ok (.iload_n 1, 1) := by decide +kernel
theorem d_Mo_moves_63 : decode b_Mo_moves 63 = .ok (.dup2, 1) := by decide +kernel
theorem d_Mo_moves_64 : decode b_Mo_moves 64 = .ok (.laload, 1) := by decide +kernel
theorem d_Mo_moves_65 : decode b_Mo_moves 65 = .ok (.lload_n 2, 1) := by decide +kernel
theorem d_Mo_moves_66 : decode b_Mo_moves 66 = .ok (.lsub, 1) := by decide +kernel
theorem d_Mo_moves_67 : decode b_Mo_moves 67 = .ok (.lastore, 1) := by decide +kernel
theorem d_Mo_moves_68 : decode b_Mo_moves 68 = .ok (.aload_n 0, 1) := by decide +kernel
theorem d_Mo_moves_69 : decode b_Mo_moves 69 = .ok (.getfield 30, 3) := by decide +kernel
theorem d_Mo_moves_72 : decode b_Mo_moves 72 = .ok (.iload_n 1, 1) := by decide +kernel
theorem d_Mo_moves_73 : decode b_Mo_moves 73 = .ok (.dup2, 1) := by decide +kernel
theorem d_Mo_moves_74 : decode b_Mo_moves 74 = .ok (.laload, 1) := by decide +kernel
theorem d_Mo_moves_75 : decode b_Mo_moves 75 = .ok (.lload 4, 2) := by decide +kernel
theorem d_Mo_moves_77 : decode b_Mo_moves 77 = .ok (.lsub, 1) := by decide +kernel
theorem d_Mo_moves_78 : decode b_Mo_moves 78 = .ok (.lastore, 1) := by decide +kernel
theorem d_Mo_moves_79 : decode b_Mo_moves 79 = .ok (.aload_n 0, 1) := by decide +kernel
theorem d_Mo_moves_80 : decode b_Mo_moves 80 = .ok (.getfield 33, 3) := by decide +kernel
theorem d_Mo_moves_83 : decode b_Mo_moves 83 = .ok (.iload_n 1, 1) := by decide +kernel
theorem d_Mo_moves_84 : decode b_Mo_moves 84 = .ok (.dup2, 1) := by decide +kernel
theorem d_Mo_moves_85 : decode b_Mo_moves 85 = .ok (.laload, 1) := by decide +kernel
theorem d_Mo_moves_86 : decode b_Mo_moves 86 = .ok (.lload 6, 2) := by decide +kernel
theorem d_Mo_moves_88 : decode b_Mo_moves 88 = .ok (.lsub, 1) := by decide +kernel
theorem d_Mo_moves_89 : decode b_Mo_moves 89 = .ok (.lastore, 1) := by decide +kernel
theorem d_Mo_moves_90 : decode b_Mo_moves 90 = .ok (.iload_n 1, 1) := by decide +kernel
theorem d_Mo_moves_91 : decode b_Mo_moves 91 = .ok (.iconst 1, 1) := by decide +kernel
theorem d_Mo_moves_92 : decode b_Mo_moves 92 = .ok (.iadd, 1) := by decide +kernel
theorem d_Mo_moves_93 : decode b_Mo_moves 93 = .ok (.aload_n 0, 1) := by decide +kernel
theorem d_Mo_moves_94 : decode b_Mo_moves 94 = .ok (.getfield 76, 3) := by decide +kernel
theorem d_Mo_moves_97 : decode b_Mo_moves 97 = .ok (.if_icmp .ge 44, 3) := by decide +kernel
theorem d_Mo_moves_100 : decode b_Mo_moves 100 = .ok (.aload_n 0, 1) := by decide +kernel
theorem d_Mo_moves_101 : decode b_Mo_moves 101 = .ok (.getfield 26, 3) := by decide +kernel
theorem d_Mo_moves_104 : decode b_Mo_moves 104 = .ok (.iload_n 1, 1) := by decide +kernel
theorem d_Mo_moves_105 : decode b_Mo_moves 105 = .ok (.iconst 1, 1) := by decide +kernel
theorem d_Mo_moves_106 : decode b_Mo_moves 106 = .ok (.iadd, 1) := by decide +kernel
theorem d_Mo_moves_107 : decode b_Mo_moves 107 = .ok (.dup2, 1) := by decide +kernel
theorem d_Mo_moves_108 : decode b_Mo_moves 108 = .ok (.laload, 1) := by decide +kernel
theorem d_Mo_moves_109 : decode b_Mo_moves 109 = .ok (.lload_n 2, 1) := by decide +kernel
theorem d_Mo_moves_110 : decode b_Mo_moves 110 = .ok (.ladd, 1) := by decide +kernel
theorem d_Mo_moves_111 : decode b_Mo_moves 111 = .ok (.lastore, 1) := by decide +kernel
theorem d_Mo_moves_112 : decode b_Mo_moves 112 = .ok (.aload_n 0, 1) := by decide +kernel
theorem d_Mo_moves_113 : decode b_Mo_moves 113 = .ok (.getfield 30, 3) := by decide +kernel
theorem d_Mo_moves_116 : decode b_Mo_moves 116 = .ok (.iload_n 1, 1) := by decide +kernel
theorem d_Mo_moves_117 : decode b_Mo_moves 117 = .ok (.iconst 1, 1) := by decide +kernel
theorem d_Mo_moves_118 : decode b_Mo_moves 118 = .ok (.iadd, 1) := by decide +kernel
theorem d_Mo_moves_119 : decode b_Mo_moves 119 = .ok (.dup2, 1) := by decide +kernel
theorem d_Mo_moves_120 : decode b_Mo_moves 120 = .ok (.laload, 1) := by decide +kernel
theorem d_Mo_moves_121 : decode b_Mo_moves 121 = .ok (.lload 4, 2) := by decide +kernel
theorem d_Mo_moves_123 : decode b_Mo_moves 123 = .ok (.ladd, 1) := by decide +kernel
theorem d_Mo_moves_124 : decode b_Mo_moves 124 = .ok (.lastore, 1) := by decide +kernel
theorem d_Mo_moves_125 : decode b_Mo_moves 125 = .ok (.aload_n 0, 1) := by decide +kernel
theorem d_Mo_moves_126 : decode b_Mo_moves 126 = .ok (.getfield 33, 3) := by decide +kernel
theorem d_Mo_moves_129 : decode b_Mo_moves 129 = .ok (.iload_n 1, 1) := by decide +kernel
theorem d_Mo_moves_130 : decode b_Mo_moves 130 = .ok (.iconst 1, 1) := by decide +kernel
theorem d_Mo_moves_131 : decode b_Mo_moves 131 = .ok (.iadd, 1) := by decide +kernel
theorem d_Mo_moves_132 : decode b_Mo_moves 132 = .ok (.dup2, 1) := by decide +kernel
theorem d_Mo_moves_133 : decode b_Mo_moves 133 = .ok (.laload, 1) := by decide +kernel
theorem d_Mo_moves_134 : decode b_Mo_moves 134 = .ok (.lload 6, 2) := by decide +kernel
theorem d_Mo_moves_136 : decode b_Mo_moves 136 = .ok (.ladd, 1) := by decide +kernel
theorem d_Mo_moves_137 : decode b_Mo_moves 137 = .ok (.lastore, 1) := by decide +kernel
theorem d_Mo_moves_138 : decode b_Mo_moves 138 = .ok (.goto 27, 3) := by decide +kernel
theorem d_Mo_moves_141 : decode b_Mo_moves 141 = .ok (.aload_n 0, 1) := by decide +kernel
theorem d_Mo_moves_142 : decode b_Mo_moves 142 = .ok (.getfield 70, 3) := by decide +kernel
theorem d_Mo_moves_145 : decode b_Mo_moves 145 = .ok (.iconst 3, 1) := by decide +kernel
theorem d_Mo_moves_146 : decode b_Mo_moves 146 = .ok (.dup2, 1) := by decide +kernel
theorem d_Mo_moves_147 : decode b_Mo_moves 147 = .ok (.laload, 1) := by decide +kernel
theorem d_Mo_moves_148 : decode b_Mo_moves 148 = .ok (.lload_n 2, 1) := by decide +kernel
theorem d_Mo_moves_149 : decode b_Mo_moves 149 = .ok (.lload 4, 2) := by decide +kernel
theorem d_Mo_moves_151 : decode b_Mo_moves 151 = .ok (.ladd, 1) := by decide +kernel
theorem d_Mo_moves_152 : decode b_Mo_moves 152 = .ok (.ladd, 1) := by decide +kernel
theorem d_Mo_moves_153 : decode b_Mo_moves 153 = .ok (.lastore, 1) := by decide +kernel
theorem d_Mo_moves_154 : decode b_Mo_moves 154 = .ok (.aload_n 0, 1) := by decide +kernel
theorem d_Mo_moves_155 : decode b_Mo_moves 155 = .ok (.getfield 70, 3) := by decide +kernel
theorem d_Mo_moves_158 : decode b_Mo_moves 158 = .ok (.iconst 4, 1) := by decide +kernel
theorem d_Mo_moves_159 : decode b_Mo_moves 159 = .ok (.dup2, 1) := by decide +kernel
theorem d_Mo_moves_160 : decode b_Mo_moves 160 = .ok (.laload, 1) := by decide +kernel
theorem d_Mo_moves_161 : decode b_Mo_moves 161 = .ok (.lload 6, 2) := by decide +kernel
theorem d_Mo_moves_163 : decode b_Mo_moves 163 = .ok (.ladd, 1) := by decide +kernel
theorem d_Mo_moves_164 : decode b_Mo_moves 164 = .ok (.lastore, 1) := by decide +kernel
theorem d_Mo_moves_165 : decode b_Mo_moves 165 = .ok (.iinc 1 (-1), 3) := by decide +kernel
theorem d_Mo_moves_168 : decode b_Mo_moves 168 = .ok (.goto (-161), 3) := by decide +kernel
theorem d_Mo_moves_171 : decode b_Mo_moves 171 = .ok (.return_, 1) := by decide +kernel
theorem d_Mo_comes_0 : decode b_Mo_comes 0 = .ok (.iconst 0, 1) := by decide +kernel
theorem d_Mo_comes_1 : decode b_Mo_comes 1 = .ok (.istore_n 1, 1) := by decide +kernel
theorem d_Mo_comes_2 : decode b_Mo_comes 2 = .ok (.iload_n 1, 1) := by decide +kernel
theorem d_Mo_comes_3 : decode b_Mo_comes 3 = .ok (.iconst 4, 1) := by decide +kernel
theorem d_Mo_comes_4 : decode b_Mo_comes 4 = .ok (.if_icmp .ge 95, 3) := by decide +kernel
theorem d_Mo_comes_7 : decode b_Mo_comes 7 = .ok (.aload_n 0, 1) := by decide +kernel
theorem d_Mo_comes_8 : decode b_Mo_comes 8 = .ok (.getfield 23, 3) := by decide +kernel
theorem d_Mo_comes_11 : decode b_Mo_comes 11 = .ok (.iload_n 1, 1) := by decide +kernel
theorem d_Mo_comes_12 : decode b_Mo_comes 12 = .ok (.iaload, 1) := by decide +kernel
theorem d_Mo_comes_13 : decode b_Mo_comes 13 = .ok (.i2l, 1) := by decide +kernel
theorem d_Mo_comes_14 : decode b_Mo_comes 14 = .ok (.aload_n 0, 1) := by decide +kernel
theorem d_Mo_comes_15 : decode b_Mo_comes 15 = .ok (.getfield 7, 3) := by decide +kernel
theorem d_Mo_comes_18 : decode b_Mo_comes 18 = .ok (.iload_n 1, 1) := by decide +kernel
theorem d_Mo_comes_19 : decode b_Mo_comes 19 = .ok (.iaload, 1) := by decide +kernel
theorem d_Mo_comes_20 : decode b_Mo_comes 20 = .ok (.i2l, 1) := by decide +kernel
theorem d_Mo_comes_21 : decode b_Mo_comes 21 = .ok (.invokestatic 124, 3) := by decide +kernel
theorem d_Mo_comes_24 : decode b_Mo_comes 24 = .ok (.lstore_n 2, 1) := by decide +kernel
theorem d_Mo_comes_25 : decode b_Mo_comes 25 = .ok (.aload_n 0, 1) := by decide +kernel
theorem d_Mo_comes_26 : decode b_Mo_comes 26 = .ok (.getfield 23, 3) := by decide +kernel
theorem d_Mo_comes_29 : decode b_Mo_comes 29 = .ok (.iload_n 1, 1) := by decide +kernel
theorem d_Mo_comes_30 : decode b_Mo_comes 30 = .ok (.iaload, 1) := by decide +kernel
theorem d_Mo_comes_31 : decode b_Mo_comes 31 = .ok (.i2l, 1) := by decide +kernel
theorem d_Mo_comes_32 : decode b_Mo_comes 32 = .ok (.aload_n 0, 1) := by decide +kernel
theorem d_Mo_comes_33 : decode b_Mo_comes 33 = .ok (.getfield 13, 3) := by decide +kernel
theorem d_Mo_comes_36 : decode b_Mo_comes 36 = .ok (.iload_n 1, 1) := by decide +kernel
theorem d_Mo_comes_37 : decode b_Mo_comes 37 = .ok (.iaload, 1) := by decide +kernel
theorem d_Mo_comes_38 : decode b_Mo_comes 38 = .ok (.i2l, 1) := by decide +kernel
theorem d_Mo_comes_39 : decode b_Mo_comes 39 = .ok (.invokestatic 124, 3) := by decide +kernel
theorem d_Mo_comes_42 : decode b_Mo_comes 42 = .ok (.lstore 4, 2) := by decide +kernel
theorem d_Mo_comes_44 : decode b_Mo_comes 44 = .ok (.aload_n 0, 1) := by decide +kernel
theorem d_Mo_comes_45 : decode b_Mo_comes 45 = .ok (.getfield 26, 3) := by decide +kernel
theorem d_Mo_comes_48 : decode b_Mo_comes 48 = .ok (.iconst 0, 1) := by decide +kernel
theorem d_Mo_comes_49 : decode b_Mo_comes 49 = .ok (.dup2, 1) := by decide +kernel
theorem d_Mo_comes_50 : decode b_Mo_comes 50 = .ok (.laload, 1) := by decide +kernel
theorem d_Mo_comes_51 : decode b_Mo_comes 51 = .ok (.lload_n 2, 1) := by decide +kernel
theorem d_Mo_comes_52 : decode b_Mo_comes 52 = .ok (.ladd, 1) := by decide +kernel
theorem d_Mo_comes_53 : decode b_Mo_comes 53 = .ok (.lastore, 1) := by decide +kernel
theorem d_Mo_comes_54 : decode b_Mo_comes 54 = .ok (.aload_n 0, 1) := by decide +kernel
theorem d_Mo_comes_55 : decode b_Mo_comes 55 = .ok (.getfield 33, 3) := by decide +kernel
theorem d_Mo_comes_58 : decode b_Mo_comes 58 = .ok (.iconst 0, 1) := by decide +kernel
theorem d_Mo_comes_59 : decode b_Mo_comes 59 = .ok (.dup2, 1) := by decide +kernel
theorem d_Mo_comes_60 : decode b_Mo_comes 60 = .ok (.laload, 1) := by decide +kernel
theorem d_Mo_comes_61 : decode b_Mo_comes 61 = .ok (.lload 4, 2) := by decide +kernel
theorem d_Mo_comes_63 : decode b_Mo_comes 63 = .ok (.ladd, 1) := by decide +kernel
theorem d_Mo_comes_64 : decode b_Mo_comes 64 = .ok (.lastore, 1) := by decide +kernel
theorem d_Mo_comes_65 : decode b_Mo_comes 65 = .ok (.aload_n 0, 1) := by decide +kernel
theorem d_Mo_comes_66 : decode b_Mo_comes 66 = .ok (.getfield 30, 3) := by decide +kernel
theorem d_Mo_comes_69 : decode b_Mo_comes 69 = .ok (.iconst 0, 1) := by decide +kernel
theorem d_Mo_comes_70 : decode b_Mo_comes 70 = .ok (.dup2, 1) := by decide +kernel
theorem d_Mo_comes_71 : decode b_Mo_comes 71 = .ok (.laload, 1) := by decide +kernel
theorem d_Mo_comes_72 : decode b_Mo_comes 72 = .ok (.aload_n 0, 1) := by decide +kernel
theorem d_Mo_comes_73 : decode b_Mo_comes 73 = .ok (.getfield 23, 3) := by decide +kernel
theorem d_Mo_comes_76 : decode b_Mo_comes 76 = .ok (.iload_n 1, 1) := by decide +kernel
theorem d_Mo_comes_77 : decode b_Mo_comes 77 = .ok (.iaload, 1) := by decide +kernel
theorem d_Mo_comes_78 : decode b_Mo_comes 78 = .ok (.i2l, 1) := by decide +kernel
theorem d_Mo_comes_79 : decode b_Mo_comes 79 = .ok (.lload_n 2, 1) := by decide +kernel
theorem d_Mo_comes_80 : decode b_Mo_comes 80 = .ok (.lsub, 1) := by decide +kernel
theorem d_Mo_comes_81 : decode b_Mo_comes 81 = .ok (.lload 4, 2) := by decide +kernel
theorem d_Mo_comes_83 : decode b_Mo_comes 83 = .ok (.lsub, 1) := by decide +kernel
theorem d_Mo_comes_84 : decode b_Mo_comes 84 = .ok (.ladd, 1) := by decide +kernel
theorem d_Mo_comes_85 : decode b_Mo_comes 85 = .ok (.lastore, 1) := by decide +kernel
theorem d_Mo_comes_86 : decode b_Mo_comes 86 = .ok (.aload_n 0, 1) := by decide +kernel
theorem d_Mo_comes_87 : decode b_Mo_comes 87 = .ok (.getfield 23, 3) := by decide +kernel
theorem d_Mo_comes_90 : decode b_Mo_comes 90 = .ok (.iload_n 1, 1) := by decide +kernel
theorem d_Mo_comes_91 : decode b_Mo_comes 91 = .ok (.iconst 0, 1) := by decide +kernel
theorem d_Mo_comes_92 : decode b_Mo_comes 92 = .ok (.iastore, 1) := by decide +kernel
theorem d_Mo_comes_93 : decode b_Mo_comes 93 = .ok (.iinc 1 1, 3) := by decide +kernel
theorem d_Mo_comes_96 : decode b_Mo_comes 96 = .ok (.goto (-94), 3) := by decide +kernel
theorem d_Mo_comes_99 : decode b_Mo_comes 99 = .ok (.return_, 1) := by decide +kernel
theorem d_Mo_least_0 : decode b_Mo_least 0 = .ok (.lload_n 0, 1) := by decide +kernel
theorem d_Mo_least_1 : decode b_Mo_least 1 = .ok (.lload_n 2, 1) := by decide +kernel
theorem d_Mo_least_2 : decode b_Mo_least 2 = .ok (.lcmp, 1) := by decide +kernel
theorem d_Mo_least_3 : decode b_Mo_least 3 = .ok (.ifCond .ge 7, 3) := by decide +kernel
theorem d_Mo_least_6 : decode b_Mo_least 6 = .ok (.lload_n 0, 1) := by decide +kernel
theorem d_Mo_least_7 : decode b_Mo_least 7 = .ok (.goto 4, 3) := by decide +kernel
theorem d_Mo_least_10 : decode b_Mo_least 10 = .ok (.lload_n 2, 1) := by decide +kernel
theorem d_Mo_least_11 : decode b_Mo_least 11 = .ok (.lreturn, 1) := by decide +kernel
theorem d_Mo_burnsOn_0 : decode b_Mo_burnsOn 0 = .ok (.aload_n 0, 1) := by decide +kernel
theorem d_Mo_burnsOn_1 : decode b_Mo_burnsOn 1 = .ok (.getfield 26, 3) := by decide +kernel
theorem d_Mo_burnsOn_4 : decode b_Mo_burnsOn 4 = .ok (.iload_n 1, 1) := by decide +kernel
theorem d_Mo_burnsOn_5 : decode b_Mo_burnsOn 5 = .ok (.laload, 1) := by decide +kernel
theorem d_Mo_burnsOn_6 : decode b_Mo_burnsOn 6 = .ok (.aload_n 0, 1) := by decide +kernel
theorem d_Mo_burnsOn_7 : decode b_Mo_burnsOn 7 = .ok (.getfield 39, 3) := by decide +kernel
theorem d_Mo_burnsOn_10 : decode b_Mo_burnsOn 10 = .ok (.iload_n 1, 1) := by decide +kernel
theorem d_Mo_burnsOn_11 : decode b_Mo_burnsOn 11 = .ok (.iaload, 1) := by decide +kernel
theorem d_Mo_burnsOn_12 : decode b_Mo_burnsOn 12 = .ok (.i2l, 1) := by decide +kernel
theorem d_Mo_burnsOn_13 : decode b_Mo_burnsOn 13 = .ok (.invokestatic 124, 3) := by decide +kernel
theorem d_Mo_burnsOn_16 : decode b_Mo_burnsOn 16 = .ok (.aload_n 0, 1) := by decide +kernel
theorem d_Mo_burnsOn_17 : decode b_Mo_burnsOn 17 = .ok (.getfield 70, 3) := by decide +kernel
theorem d_Mo_burnsOn_20 : decode b_Mo_burnsOn 20 = .ok (.bipush 9, 2) := by decide +kernel
theorem d_Mo_burnsOn_22 : decode b_Mo_burnsOn 22 = .ok (.laload, 1) := by decide +kernel
theorem d_Mo_burnsOn_23 : decode b_Mo_burnsOn 23 = .ok (.ldc2_w 128, 3) := by decide +kernel
theorem d_Mo_burnsOn_26 : decode b_Mo_burnsOn 26 = .ok (.ldiv, 1) := by decide +kernel
theorem d_Mo_burnsOn_27 : decode b_Mo_burnsOn 27 = .ok (.invokestatic 130, 3) := by decide +kernel
theorem d_Mo_burnsOn_30 : decode b_Mo_burnsOn 30 = .ok (.lstore_n 2, 1) := by decide +kernel
theorem d_Mo_burnsOn_31 : decode b_Mo_burnsOn 31 = .ok (.aload_n 0, 1) := by decide +kernel
theorem d_Mo_burnsOn_32 : decode b_Mo_burnsOn 32 = .ok (.getfield 26, 3) := by decide +kernel
theorem d_Mo_burnsOn_35 : decode b_Mo_burnsOn 35 = .ok (.iload_n 1, 1) := by decide +kernel
theorem d_Mo_burnsOn_36 : decode b_Mo_burnsOn 36 = .ok (.dup2, 1) := by decide +kernel
theorem d_Mo_burnsOn_37 : decode b_Mo_burnsOn 37 = .ok (.laload, 1) := by decide +kernel
theorem d_Mo_burnsOn_38 : decode b_Mo_burnsOn 38 = .ok (.lload_n 2, 1) := by decide +kernel
theorem d_Mo_burnsOn_39 : decode b_Mo_burnsOn 39 = .ok (.lsub, 1) := by decide +kernel
theorem d_Mo_burnsOn_40 : decode b_Mo_burnsOn 40 = .ok (.lastore, 1) := by decide +kernel
theorem d_Mo_burnsOn_41 : decode b_Mo_burnsOn 41 = .ok (.aload_n 0, 1) := by decide +kernel
theorem d_Mo_burnsOn_42 : decode b_Mo_burnsOn 42 = .ok (.getfield 70, 3) := by decide +kernel
theorem d_Mo_burnsOn_45 : decode b_Mo_burnsOn 45 = .ok (.bipush 9, 2) := by decide +kernel
theorem d_Mo_burnsOn_47 : decode b_Mo_burnsOn 47 = .ok (.dup2, 1) := by decide +kernel
theorem d_Mo_burnsOn_48 : decode b_Mo_burnsOn 48 = .ok (.laload, 1) := by decide +kernel
theorem d_Mo_burnsOn_49 : decode b_Mo_burnsOn 49 = .ok (.ldc2_w 128, 3) := by decide +kernel
theorem d_Mo_burnsOn_52 : decode b_Mo_burnsOn 52 = .ok (.lload_n 2, 1) := by decide +kernel
theorem d_Mo_burnsOn_53 : decode b_Mo_burnsOn 53 = .ok (.lmul, 1) := by decide +kernel
theorem d_Mo_burnsOn_54 : decode b_Mo_burnsOn 54 = .ok (.lsub, 1) := by decide +kernel
theorem d_Mo_burnsOn_55 : decode b_Mo_burnsOn 55 = .ok (.lastore, 1) := by decide +kernel
theorem d_Mo_burnsOn_56 : decode b_Mo_burnsOn 56 = .ok (.aload_n 0, 1) := by decide +kernel
theorem d_Mo_burnsOn_57 : decode b_Mo_burnsOn 57 = .ok (.getfield 70, 3) := by decide +kernel
theorem d_Mo_burnsOn_60 : decode b_Mo_burnsOn 60 = .ok (.bipush 8, 2) := by decide +kernel
theorem d_Mo_burnsOn_62 : decode b_Mo_burnsOn 62 = .ok (.dup2, 1) := by decide +kernel
theorem d_Mo_burnsOn_63 : decode b_Mo_burnsOn 63 = .ok (.laload, 1) := by decide +kernel
theorem d_Mo_burnsOn_64 : decode b_Mo_burnsOn 64 = .ok (.ldc2_w 128, 3) := by decide +kernel
theorem d_Mo_burnsOn_67 : decode b_Mo_burnsOn 67 = .ok (.lload_n 2, 1) := by decide +kernel
theorem d_Mo_burnsOn_68 : decode b_Mo_burnsOn 68 = .ok (.lmul, 1) := by decide +kernel
theorem d_Mo_burnsOn_69 : decode b_Mo_burnsOn 69 = .ok (.ladd, 1) := by decide +kernel
theorem d_Mo_burnsOn_70 : decode b_Mo_burnsOn 70 = .ok (.lastore, 1) := by decide +kernel
theorem d_Mo_burnsOn_71 : decode b_Mo_burnsOn 71 = .ok (.aload_n 0, 1) := by decide +kernel
theorem d_Mo_burnsOn_72 : decode b_Mo_burnsOn 72 = .ok (.getfield 70, 3) := by decide +kernel
theorem d_Mo_burnsOn_75 : decode b_Mo_burnsOn 75 = .ok (.iconst 1, 1) := by decide +kernel
theorem d_Mo_burnsOn_76 : decode b_Mo_burnsOn 76 = .ok (.dup2, 1) := by decide +kernel
theorem d_Mo_burnsOn_77 : decode b_Mo_burnsOn 77 = .ok (.laload, 1) := by decide +kernel
theorem d_Mo_burnsOn_78 : decode b_Mo_burnsOn 78 = .ok (.lload_n 2, 1) := by decide +kernel
theorem d_Mo_burnsOn_79 : decode b_Mo_burnsOn 79 = .ok (.ladd, 1) := by decide +kernel
theorem d_Mo_burnsOn_80 : decode b_Mo_burnsOn 80 = .ok (.lastore, 1) := by decide +kernel
theorem d_Mo_burnsOn_81 : decode b_Mo_burnsOn 81 = .ok (.aload_n 0, 1) := by decide +kernel
theorem d_Mo_burnsOn_82 : decode b_Mo_burnsOn 82 = .ok (.getfield 67, 3) := by decide +kernel
theorem d_Mo_burnsOn_85 : decode b_Mo_burnsOn 85 = .ok (.iconst 3, 1) := by decide +kernel
theorem d_Mo_burnsOn_86 : decode b_Mo_burnsOn 86 = .ok (.dup2, 1) := by decide +kernel
theorem d_Mo_burnsOn_87 : decode b_Mo_burnsOn 87 = .ok (.laload, 1) := by decide +kernel
theorem d_Mo_burnsOn_88 : decode b_Mo_burnsOn 88 = .ok (.lload_n 2, 1) := by decide +kernel
theorem d_Mo_burnsOn_89 : decode b_Mo_burnsOn 89 = .ok (.ladd, 1) := by decide +kernel
theorem d_Mo_burnsOn_90 : decode b_Mo_burnsOn 90 = .ok (.lastore, 1) := by decide +kernel
theorem d_Mo_burnsOn_91 : decode b_Mo_burnsOn 91 = .ok (.aload_n 0, 1) := by decide +kernel
theorem d_Mo_burnsOn_92 : decode b_Mo_burnsOn 92 = .ok (.getfield 26, 3) := by decide +kernel
theorem d_Mo_burnsOn_95 : decode b_Mo_burnsOn 95 = .ok (.iload_n 1, 1) := by decide +kernel
theorem d_Mo_burnsOn_96 : decode b_Mo_burnsOn 96 = .ok (.laload, 1) := by decide +kernel
theorem d_Mo_burnsOn_97 : decode b_Mo_burnsOn 97 = .ok (.aload_n 0, 1) := by decide +kernel
theorem d_Mo_burnsOn_98 : decode b_Mo_burnsOn 98 = .ok (.getfield 30, 3) := by decide +kernel
theorem d_Mo_burnsOn_101 : decode b_Mo_burnsOn 101 = .ok (.iload_n 1, 1) := by decide +kernel
theorem d_Mo_burnsOn_102 : decode b_Mo_burnsOn 102 = .ok (.laload, 1) := by decide +kernel
theorem d_Mo_burnsOn_103 : decode b_Mo_burnsOn 103 = .ok (.lcmp, 1) := by decide +kernel
theorem d_Mo_burnsOn_104 : decode b_Mo_burnsOn 104 = .ok (.ifCond .le 4, 3) := by decide +kernel
theorem d_Mo_burnsOn_107 : decode b_Mo_burnsOn 107 = .ok (.return_, 1) := by decide +kernel
theorem d_Mo_burnsOn_108 : decode b_Mo_burnsOn 108 = .ok (.aload_n 0, 1) := by decide +kernel
theorem d_Mo_burnsOn_109 : decode b_Mo_burnsOn 109 = .ok (.getfield 30, 3) := by decide +kernel
theorem d_Mo_burnsOn_112 : decode b_Mo_burnsOn 112 = .ok (.iload_n 1, 1) := by decide +kernel
theorem d_Mo_burnsOn_113 : decode b_Mo_burnsOn 113 = .ok (.laload, 1) := by decide +kernel
theorem d_Mo_burnsOn_114 : decode b_Mo_burnsOn 114 = .ok (.aload_n 0, 1) := by decide +kernel
theorem d_Mo_burnsOn_115 : decode b_Mo_burnsOn 115 = .ok (.getfield 36, 3) := by decide +kernel
theorem d_Mo_burnsOn_118 : decode b_Mo_burnsOn 118 = .ok (.iload_n 1, 1) := by decide +kernel
theorem d_Mo_burnsOn_119 : decode b_Mo_burnsOn 119 = .ok (.iaload, 1) := by decide +kernel
theorem d_Mo_burnsOn_120 : decode b_Mo_burnsOn 120 = .ok (.bipush 6, 2) := by decide +kernel
theorem d_Mo_burnsOn_122 : decode b_Mo_burnsOn 122 = .ok (.idiv, 1) := by decide +kernel
theorem d_Mo_burnsOn_123 : decode b_Mo_burnsOn 123 = .ok (.i2l, 1) := by decide +kernel
theorem d_Mo_burnsOn_124 : decode b_Mo_burnsOn 124 = .ok (.aload_n 0, 1) := by decide +kernel
theorem d_Mo_burnsOn_125 : decode b_Mo_burnsOn 125 = .ok (.getfield 30, 3) := by decide +kernel
theorem d_Mo_burnsOn_128 : decode b_Mo_burnsOn 128 = .ok (.iload_n 1, 1) := by decide +kernel
theorem d_Mo_burnsOn_129 : decode b_Mo_burnsOn 129 = .ok (.laload, 1) := by decide +kernel
theorem d_Mo_burnsOn_130 : decode b_Mo_burnsOn 130 = .ok (.ldc2_w 133, 3) := by decide +kernel
theorem d_Mo_burnsOn_133 : decode b_Mo_burnsOn 133 = .ok (.invokestatic 124, 3) := by decide +kernel
theorem d_Mo_burnsOn_136 : decode b_Mo_burnsOn 136 = .ok (.lconst 1, 1) := by decide +kernel
theorem d_Mo_burnsOn_137 : decode b_Mo_burnsOn 137 = .ok (.ladd, 1) := by decide +kernel
theorem d_Mo_burnsOn_138 : decode b_Mo_burnsOn 138 = .ok (.invokestatic 130, 3) := by decide +kernel
theorem d_Mo_burnsOn_141 : decode b_Mo_burnsOn 141 = .ok (.invokestatic 130, 3) := by decide +kernel
theorem d_Mo_burnsOn_144 : decode b_Mo_burnsOn 144 = .ok (.lstore 4, 2) := by decide +kernel
theorem d_Mo_burnsOn_146 : decode b_Mo_burnsOn 146 = .ok (.aload_n 0, 1) := by decide +kernel
theorem d_Mo_burnsOn_147 : decode b_Mo_burnsOn 147 = .ok (.getfield 30, 3) := by decide +kernel
theorem d_Mo_burnsOn_150 : decode b_Mo_burnsOn 150 = .ok (.iload_n 1, 1) := by decide +kernel
theorem d_Mo_burnsOn_151 : decode b_Mo_burnsOn 151 = .ok (.dup2, 1) := by decide +kernel
theorem d_Mo_burnsOn_152 : decode b_Mo_burnsOn 152 = .ok (.laload, 1) := by decide +kernel
theorem d_Mo_burnsOn_153 : decode b_Mo_burnsOn 153 = .ok (.lload 4, 2) := by decide +kernel
theorem d_Mo_burnsOn_155 : decode b_Mo_burnsOn 155 = .ok (.lsub, 1) := by decide +kernel
theorem d_Mo_burnsOn_156 : decode b_Mo_burnsOn 156 = .ok (.lastore, 1) := by decide +kernel
theorem d_Mo_burnsOn_157 : decode b_Mo_burnsOn 157 = .ok (.aload_n 0, 1) := by decide +kernel
theorem d_Mo_burnsOn_158 : decode b_Mo_burnsOn 158 = .ok (.getfield 70, 3) := by decide +kernel
theorem d_Mo_burnsOn_161 : decode b_Mo_burnsOn 161 = .ok (.bipush 9, 2) := by decide +kernel
theorem d_Mo_burnsOn_163 : decode b_Mo_burnsOn 163 = .ok (.dup2, 1) := by decide +kernel
theorem d_Mo_burnsOn_164 : decode b_Mo_burnsOn 164 = .ok (.laload, 1) := by decide +kernel
theorem d_Mo_burnsOn_165 : decode b_Mo_burnsOn 165 = .ok (.ldc2_w 99, 3) := by decide +kernel
theorem d_Mo_burnsOn_168 : decode b_Mo_burnsOn 168 = .ok (.lload 4, 2) := by decide +kernel
theorem d_Mo_burnsOn_170 : decode b_Mo_burnsOn 170 = .ok (.lmul, 1) := by decide +kernel
theorem d_Mo_burnsOn_171 : decode b_Mo_burnsOn 171 = .ok (.ladd, 1) := by decide +kernel
theorem d_Mo_burnsOn_172 : decode b_Mo_burnsOn 172 = .ok (.lastore, 1) := by decide +kernel
theorem d_Mo_burnsOn_173 : decode b_Mo_burnsOn 173 = .ok (.aload_n 0, 1) := by decide +kernel
theorem d_Mo_burnsOn_174 : decode b_Mo_burnsOn 174 = .ok (.getfield 70, 3) := by decide +kernel
theorem d_Mo_burnsOn_177 : decode b_Mo_burnsOn 177 = .ok (.iconst 5, 1) := by decide +kernel
theorem d_Mo_burnsOn_178 : decode b_Mo_burnsOn 178 = .ok (.dup2, 1) := by decide +kernel
theorem d_Mo_burnsOn_179 : decode b_Mo_burnsOn 179 = .ok (.laload, 1) := by decide +kernel
theorem d_Mo_burnsOn_180 : decode b_Mo_burnsOn 180 = .ok (.ldc2_w 99, 3) := by decide +kernel
theorem d_Mo_burnsOn_183 : decode b_Mo_burnsOn 183 = .ok (.lload 4, 2) := by decide +kernel
theorem d_Mo_burnsOn_185 : decode b_Mo_burnsOn 185 = .ok (.lmul, 1) := by decide +kernel
theorem d_Mo_burnsOn_186 : decode b_Mo_burnsOn 186 = .ok (.ladd, 1) := by decide +kernel
theorem d_Mo_burnsOn_187 : decode b_Mo_burnsOn 187 = .ok (.lastore, 1) := by decide +kernel
theorem d_Mo_burnsOn_188 : decode b_Mo_burnsOn 188 = .ok (.aload_n 0, 1) := by decide +kernel
theorem d_Mo_burnsOn_189 : decode b_Mo_burnsOn 189 = .ok (.getfield 70, 3) := by decide +kernel
theorem d_Mo_burnsOn_192 : decode b_Mo_burnsOn 192 = .ok (.iconst 2, 1) := by decide +kernel
theorem d_Mo_burnsOn_193 : decode b_Mo_burnsOn 193 = .ok (.dup2, 1) := by decide +kernel
theorem d_Mo_burnsOn_194 : decode b_Mo_burnsOn 194 = .ok (.laload, 1) := by decide +kernel
theorem d_Mo_burnsOn_195 : decode b_Mo_burnsOn 195 = .ok (.lload 4, 2) := by decide +kernel
theorem d_Mo_burnsOn_197 : decode b_Mo_burnsOn 197 = .ok (.ladd, 1) := by decide +kernel
theorem d_Mo_burnsOn_198 : decode b_Mo_burnsOn 198 = .ok (.lastore, 1) := by decide +kernel
theorem d_Mo_burnsOn_199 : decode b_Mo_burnsOn 199 = .ok (.aload_n 0, 1) := by decide +kernel
theorem d_Mo_burnsOn_200 : decode b_Mo_burnsOn 200 = .ok (.getfield 67, 3) := by decide +kernel
theorem d_Mo_burnsOn_203 : decode b_Mo_burnsOn 203 = .ok (.iconst 2, 1) := by decide +kernel
theorem d_Mo_burnsOn_204 : decode b_Mo_burnsOn 204 = .ok (.dup2, 1) := by decide +kernel
theorem d_Mo_burnsOn_205 : decode b_Mo_burnsOn 205 = .ok (.laload, 1) := by decide +kernel
theorem d_Mo_burnsOn_206 : decode b_Mo_burnsOn 206 = .ok (.lload 4, 2) := by decide +kernel
theorem d_Mo_burnsOn_208 : decode b_Mo_burnsOn 208 = .ok (.ladd, 1) := by decide +kernel
theorem d_Mo_burnsOn_209 : decode b_Mo_burnsOn 209 = .ok (.lastore, 1) := by decide +kernel
theorem d_Mo_burnsOn_210 : decode b_Mo_burnsOn 210 = .ok (.return_, 1) := by decide +kernel
theorem d_Mo_cut_0 : decode b_Mo_cut 0 = .ok (.lload_n 0, 1) := by decide +kernel
theorem d_Mo_cut_1 : decode b_Mo_cut 1 = .ok (.lload_n 2, 1) := by decide +kernel
theorem d_Mo_cut_2 : decode b_Mo_cut 2 = .ok (.lcmp, 1) := by decide +kernel
theorem d_Mo_cut_3 : decode b_Mo_cut 3 = .ok (.ifCond .ge 7, 3) := by decide +kernel
theorem d_Mo_cut_6 : decode b_Mo_cut 6 = .ok (.lload_n 2, 1) := by decide +kernel
theorem d_Mo_cut_7 : decode b_Mo_cut 7 = .ok (.goto 16, 3) := by decide +kernel
theorem d_Mo_cut_10 : decode b_Mo_cut 10 = .ok (.lload_n 0, 1) := by decide +kernel
theorem d_Mo_cut_11 : decode b_Mo_cut 11 = .ok (.lload 4, 2) := by decide +kernel
theorem d_Mo_cut_13 : decode b_Mo_cut 13 = .ok (.lcmp, 1) := by decide +kernel
theorem d_Mo_cut_14 : decode b_Mo_cut 14 = .ok (.ifCond .le 8, 3) := by decide +kernel
theorem d_Mo_cut_17 : decode b_Mo_cut 17 = .ok (.lload 4, 2) := by decide +kernel
theorem d_Mo_cut_19 : decode b_Mo_cut 19 = .ok (.goto 4, 3) := by decide +kernel
theorem d_Mo_cut_22 : decode b_Mo_cut 22 = .ok (.lload_n 0, 1) := by decide +kernel
theorem d_Mo_cut_23 : decode b_Mo_cut 23 = .ok (.lreturn, 1) := by decide +kernel
theorem d_Mo_controls_0 : decode b_Mo_controls 0 = .ok (.aload_n 0, 1) := by decide +kernel
theorem d_Mo_controls_1 : decode b_Mo_controls 1 = .ok (.getfield 48, 3) := by decide +kernel
theorem d_Mo_controls_4 : decode b_Mo_controls 4 = .ok (.iload_n 1, 1) := by decide +kernel
theorem d_Mo_controls_5 : decode b_Mo_controls 5 = .ok (.baload, 1) := by decide +kernel
theorem d_Mo_controls_6 : decode b_Mo_controls 6 = .ok (.ifCond .ne 4, 3) := by decide +kernel
theorem d_Mo_controls_9 : decode b_Mo_controls 9 = .ok (.return_, 1) := by decide +kernel
theorem d_Mo_controls_10 : decode b_Mo_controls 10 = .ok (.aload_n 0, 1) := by decide +kernel
theorem d_Mo_controls_11 : decode b_Mo_controls 11 = .ok (.getfield 52, 3) := by decide +kernel
theorem d_Mo_controls_14 : decode b_Mo_controls 14 = .ok (.iload_n 1, 1) := by decide +kernel
theorem d_Mo_controls_15 : decode b_Mo_controls 15 = .ok (.iaload, 1) := by decide +kernel
theorem d_Mo_controls_16 : decode b_Mo_controls 16 = .ok (.i2l, 1) := by decide +kernel
theorem d_Mo_controls_17 : decode b_Mo_controls 17 = .ok (.aload_n 0, 1) := by decide +kernel
theorem d_Mo_controls_18 : decode b_Mo_controls 18 = .ok (.getfield 67, 3) := by decide +kernel
theorem d_Mo_controls_21 : decode b_Mo_controls 21 = .ok (.iload_n 1, 1) := by decide +kernel
theorem d_Mo_controls_22 : decode b_Mo_controls 22 = .ok (.laload, 1) := by decide +kernel
theorem d_Mo_controls_23 : decode b_Mo_controls 23 = .ok (.lsub, 1) := by decide +kernel
theorem d_Mo_controls_24 : decode b_Mo_controls 24 = .ok (.lstore_n 2, 1) := by decide +kernel
theorem d_Mo_controls_25 : decode b_Mo_controls 25 = .ok (.aload_n 0, 1) := by decide +kernel
theorem d_Mo_controls_26 : decode b_Mo_controls 26 = .ok (.getfield 61, 3) := by decide +kernel
theorem d_Mo_controls_29 : decode b_Mo_controls 29 = .ok (.iload_n 1, 1) := by decide +kernel
theorem d_Mo_controls_30 : decode b_Mo_controls 30 = .ok (.aload_n 0, 1) := by decide +kernel
theorem d_Mo_controls_31 : decode b_Mo_controls 31 = .ok (.getfield 61, 3) := by decide +kernel
theorem d_Mo_controls_34 : decode b_Mo_controls 34 = .ok (.iload_n 1, 1) := by decide +kernel
theorem d_Mo_controls_35 : decode b_Mo_controls 35 = .ok (.laload, 1) := by decide +kernel
theorem d_Mo_controls_36 : decode b_Mo_controls 36 = .ok (.lload_n 2, 1) := by decide +kernel
theorem d_Mo_controls_37 : decode b_Mo_controls 37 = .ok (.ladd, 1) := by decide +kernel
theorem d_Mo_controls_38 : decode b_Mo_controls 38 = .ok (.ldc2_w 135, 3) := by decide +kernel
theorem d_Mo_controls_41 : decode b_Mo_controls 41 = .ok (.ldc2_w 108, 3) := by decide +kernel
theorem d_Mo_controls_44 : decode b_Mo_controls 44 = .ok (.invokestatic 137, 3) := by decide +kernel
theorem d_Mo_controls_47 : decode b_Mo_controls 47 = .ok (.lastore, 1) := by decide +kernel
theorem d_Mo_controls_48 : decode b_Mo_controls 48 = .ok (.aload_n 0, 1) := by decide +kernel
theorem d_Mo_controls_49 : decode b_Mo_controls 49 = .ok (.getfield 55, 3) := by decide +kernel
theorem d_Mo_controls_52 : decode b_Mo_controls 52 = .ok (.iload_n 1, 1) := by decide +kernel
theorem d_Mo_controls_53 : decode b_Mo_controls 53 = .ok (.iaload, 1) := by decide +kernel
theorem d_Mo_controls_54 : decode b_Mo_controls 54 = .ok (.i2l, 1) := by decide +kernel
theorem d_Mo_controls_55 : decode b_Mo_controls 55 = .ok (.lload_n 2, 1) := by decide +kernel
theorem d_Mo_controls_56 : decode b_Mo_controls 56 = .ok (.lmul, 1) := by decide +kernel
theorem d_Mo_controls_57 : decode b_Mo_controls 57 = .ok (.aload_n 0, 1) := by decide +kernel
theorem d_Mo_controls_58 : decode b_Mo_controls 58 = .ok (.getfield 58, 3) := by decide +kernel
theorem d_Mo_controls_61 : decode b_Mo_controls 61 = .ok (.iload_n 1, 1) := by decide +kernel
theorem d_Mo_controls_62 : decode b_Mo_controls 62 = .ok (.iaload, 1) := by decide +kernel
theorem d_Mo_controls_63 : decode b_Mo_controls 63 = .ok (.i2l, 1) := by decide +kernel
theorem d_Mo_controls_64 : decode b_Mo_controls 64 = .ok (.aload_n 0, 1) := by decide +kernel
theorem d_Mo_controls_65 : decode b_Mo_controls 65 = .ok (.getfield 61, 3) := by decide +kernel
theorem d_Mo_controls_68 : decode b_Mo_controls 68 = .ok (.iload_n 1, 1) := by decide +kernel
theorem d_Mo_controls_69 : decode b_Mo_controls 69 = .ok (.laload, 1) := by decide +kernel
theorem d_Mo_controls_70 : decode b_Mo_controls 70 = .ok (.lmul, 1) := by decide +kernel
theorem d_Mo_controls_71 : decode b_Mo_controls 71 = .ok (.ladd, 1) := by decide +kernel
theorem d_Mo_controls_72 : decode b_Mo_controls 72 = .ok (.lstore 4, 2) := by decide +kernel
theorem d_Mo_controls_74 : decode b_Mo_controls 74 = .ok (.lload 4, 2) := by decide +kernel
theorem d_Mo_controls_76 : decode b_Mo_controls 76 = .ok (.ldc2_w 79, 3) := by decide +kernel
theorem d_Mo_controls_79 : decode b_Mo_controls 79 = .ok (.ldiv, 1) := by decide +kernel
theorem d_Mo_controls_80 : decode b_Mo_controls 80 = .ok (.lload 4, 2) := by decide +kernel
theorem d_Mo_controls_82 : decode b_Mo_controls 82 = .ok (.ldc2_w 79, 3) := by decide +kernel
theorem d_Mo_controls_85 : decode b_Mo_controls 85 = .ok (.lrem, 1) := by decide +kernel
theorem d_Mo_controls_86 : decode b_Mo_controls 86 = .ok (.lconst 0, 1) := by decide +kernel
theorem d_Mo_controls_87 : decode b_Mo_controls 87 = .ok (.lcmp, 1) := by decide +kernel
theorem d_Mo_controls_88 : decode b_Mo_controls 88 = .ok (.ifCond .ge 7, 3) := by decide +kernel
theorem d_Mo_controls_91 : decode b_Mo_controls 91 = .ok (.lconst 1, 1) := by decide +kernel
theorem d_Mo_controls_92 : decode b_Mo_controls 92 = .ok (.goto 4, 3) := by decide +kernel
theorem d_Mo_controls_95 : decode b_Mo_controls 95 = .ok (.lconst 0, 1) := by decide +kernel
theorem d_Mo_controls_96 : decode b_Mo_controls 96 = .ok (.lsub, 1) := by decide +kernel
theorem d_Mo_controls_97 : decode b_Mo_controls 97 = .ok (.lstore 6, 2) := by decide +kernel
theorem d_Mo_controls_99 : decode b_Mo_controls 99 = .ok (.aload_n 0, 1) := by decide +kernel
theorem d_Mo_controls_100 : decode b_Mo_controls 100 = .ok (.getfield 64, 3) := by decide +kernel
theorem d_Mo_controls_103 : decode b_Mo_controls 103 = .ok (.iload_n 1, 1) := by decide +kernel
theorem d_Mo_controls_104 : decode b_Mo_controls 104 = .ok (.lload 6, 2) := by decide +kernel
theorem d_Mo_controls_106 : decode b_Mo_controls 106 = .ok (.lconst 0, 1) := by decide +kernel
theorem d_Mo_controls_107 : decode b_Mo_controls 107 = .ok (.ldc2_w 92, 3) := by decide +kernel
theorem d_Mo_controls_110 : decode b_Mo_controls 110 = .ok (.invokestatic 137, 3) := by decide +kernel
theorem d_Mo_controls_113 : decode b_Mo_controls 113 = .ok (.l2i, 1) := by decide +kernel
theorem d_Mo_controls_114 : decode b_Mo_controls 114 = .ok (.iastore, 1) := by decide +kernel
theorem d_Mo_controls_115 : decode b_Mo_controls 115 = .ok (.iload_n 1, 1) := by decide +kernel
theorem d_Mo_controls_116 : decode b_Mo_controls 116 = .ok (.iconst 1, 1) := by decide +kernel
theorem d_Mo_controls_117 : decode b_Mo_controls 117 = .ok (.if_icmp .ne 32, 3) := by decide +kernel
theorem d_Mo_controls_120 : decode b_Mo_controls 120 = .ok (.aload_n 0, 1) := by decide +kernel
theorem d_Mo_controls_121 : decode b_Mo_controls 121 = .ok (.aload_n 0, 1) := by decide +kernel
theorem d_Mo_controls_122 : decode b_Mo_controls 122 = .ok (.getfield 64, 3) := by decide +kernel
theorem d_Mo_controls_125 : decode b_Mo_controls 125 = .ok (.iconst 1, 1) := by decide +kernel
theorem d_Mo_controls_126 : decode b_Mo_controls 126 = .ok (.iaload, 1) := by decide +kernel
theorem d_Mo_controls_127 : decode b_Mo_controls 127 = .ok (.sipush 1000, 3) := by decide +kernel
theorem d_Mo_controls_130 : decode b_Mo_controls 130 = .ok (.if_icmp .ge 12, 3) := by decide +kernel
theorem d_Mo_controls_133 : decode b_Mo_controls 133 = .ok (.aload_n 0, 1) := by decide +kernel
theorem d_Mo_controls_134 : decode b_Mo_controls 134 = .ok (.getfield 64, 3) := by decide +kernel
theorem d_Mo_controls_137 : decode b_Mo_controls 137 = .ok (.iconst 1, 1) := by decide +kernel
theorem d_Mo_controls_138 : decode b_Mo_controls 138 = .ok (.iaload, 1) := by decide +kernel
theorem d_Mo_controls_139 : decode b_Mo_controls 139 = .ok (.goto 6, 3) := by decide +kernel
theorem d_Mo_controls_142 : decode b_Mo_controls 142 = .ok (.sipush 1000, 3) := by decide +kernel
theorem d_Mo_controls_145 : decode b_Mo_controls 145 = .ok (.putfield 42, 3) := by decide +kernel
theorem d_Mo_controls_148 : decode b_Mo_controls 148 = .ok (.return_, 1) := by decide +kernel
theorem d_Mo_controls_149 : decode b_Mo_controls 149 = .ok (.iconst 0, 1) := by decide +kernel
theorem d_Mo_controls_150 : decode b_Mo_controls 150 = .ok (.istore 8, 2) := by decide +kernel
theorem d_Mo_controls_152 : decode b_Mo_controls 152 = .ok (.iload 8, 2) := by decide +kernel
theorem d_Mo_controls_154 : decode b_Mo_controls 154 = .ok (.aload_n 0, 1) := by decide +kernel
theorem d_Mo_controls_155 : decode b_Mo_controls 155 = .ok (.getfield 76, 3) := by decide +kernel
theorem d_Mo_controls_158 : decode b_Mo_controls 158 = .ok (.if_icmp .ge 22, 3) := by decide +kernel
theorem d_Mo_controls_161 : decode b_Mo_controls 161 = .ok (.aload_n 0, 1) := by decide +kernel
theorem d_Mo_controls_162 : decode b_Mo_controls 162 = .ok (.getfield 36, 3) := by decide +kernel
theorem d_Mo_controls_165 : decode b_Mo_controls 165 = .ok (.iload 8, 2) := by decide +kernel
theorem d_Mo_controls_167 : decode b_Mo_controls 167 = .ok (.aload_n 0, 1) := by decide +kernel
theorem d_Mo_controls_168 : decode b_Mo_controls 168 = .ok (.getfield 64, 3) := by decide +kernel
theorem d_Mo_controls_171 : decode b_Mo_controls 171 = .ok (.iconst 0, 1) := by decide +kernel
theorem d_Mo_controls_172 : decode b_Mo_controls 172 = .ok (.iaload, 1) := by decide +kernel
theorem d_Mo_controls_173 : decode b_Mo_controls 173 = .ok (.iastore, 1) := by decide +kernel
theorem d_Mo_controls_174 : decode b_Mo_controls 174 = .ok (.iinc 8 1, 3) := by decide +kernel
theorem d_Mo_controls_177 : decode b_Mo_controls 177 = .ok (.goto (-25), 3) := by decide +kernel
theorem d_Mo_controls_180 : decode b_Mo_controls 180 = .ok (.return_, 1) := by decide +kernel
theorem d_Mo_minute_0 : decode b_Mo_minute 0 = .ok (.aload_n 0, 1) := by decide +kernel
theorem d_Mo_minute_1 : decode b_Mo_minute 1 = .ok (.invokevirtual 141, 3) := by decide +kernel
theorem d_Mo_minute_4 : decode b_Mo_minute 4 = .ok (.aload_n 0, 1) := by decide +kernel
theorem d_Mo_minute_5 : decode b_Mo_minute 5 = .ok (.invokevirtual 144, 3) := by decide +kernel
theorem d_Mo_minute_8 : decode b_Mo_minute 8 = .ok (.aload_n 0, 1) := by decide +kernel
theorem d_Mo_minute_9 : decode b_Mo_minute 9 = .ok (.getfield 67, 3) := by decide +kernel
theorem d_Mo_minute_12 : decode b_Mo_minute 12 = .ok (.iconst 2, 1) := by decide +kernel
theorem d_Mo_minute_13 : decode b_Mo_minute 13 = .ok (.lconst 0, 1) := by decide +kernel
theorem d_Mo_minute_14 : decode b_Mo_minute 14 = .ok (.lastore, 1) := by decide +kernel
theorem d_Mo_minute_15 : decode b_Mo_minute 15 = .ok (.aload_n 0, 1) := by decide +kernel
theorem d_Mo_minute_16 : decode b_Mo_minute 16 = .ok (.getfield 67, 3) := by decide +kernel
theorem d_Mo_minute_19 : decode b_Mo_minute 19 = .ok (.iconst 3, 1) := by decide +kernel
theorem d_Mo_minute_20 : decode b_Mo_minute 20 = .ok (.lconst 0, 1) := by decide +kernel
theorem d_Mo_minute_21 : decode b_Mo_minute 21 = .ok (.lastore, 1) := by decide +kernel
theorem d_Mo_minute_22 : decode b_Mo_minute 22 = .ok (.lconst 0, 1) := by decide +kernel
theorem d_Mo_minute_23 : decode b_Mo_minute 23 = .ok (.lstore_n 1, 1) := by decide +kernel
theorem d_Mo_minute_24 : decode b_Mo_minute 24 = .ok (.iconst 0, 1) := by decide +kernel
theorem d_Mo_minute_25 : decode b_Mo_minute 25 = .ok (.istore_n 3, 1) := by decide +kernel
theorem d_Mo_minute_26 : decode b_Mo_minute 26 = .ok (.iload_n 3, 1) := by decide +kernel
theorem d_Mo_minute_27 : decode b_Mo_minute 27 = .ok (.aload_n 0, 1) := by decide +kernel
theorem d_Mo_minute_28 : decode b_Mo_minute 28 = .ok (.getfield 76, 3) := by decide +kernel
theorem d_Mo_minute_31 : decode b_Mo_minute 31 = .ok (.if_icmp .ge 24, 3) := by decide +kernel
theorem d_Mo_minute_34 : decode b_Mo_minute 34 = .ok (.aload_n 0, 1) := by decide +kernel
theorem d_Mo_minute_35 : decode b_Mo_minute 35 = .ok (.iload_n 3, 1) := by decide +kernel
theorem d_Mo_minute_36 : decode b_Mo_minute 36 = .ok (.invokevirtual 147, 3) := by decide +kernel
theorem d_Mo_minute_39 : decode b_Mo_minute 39 = .ok (.lload_n 1, 1) := by decide +kernel
theorem d_Mo_minute_40 : decode b_Mo_minute 40 = .ok (.aload_n 0, 1) := by decide +kernel
theorem d_Mo_minute_41 : decode b_Mo_minute 41 = .ok (.getfield 36, 3) := by decide +kernel
theorem d_Mo_minute_44 : decode b_Mo_minute 44 = .ok (.iload_n 3, 1) := by decide +kernel
theorem d_Mo_minute_45 : decode b_Mo_minute 45 = .ok (.iaload, 1) := by decide +kernel
theorem d_Mo_minute_46 : decode b_Mo_minute 46 = .ok (.i2l, 1) := by decide +kernel
theorem d_Mo_minute_47 : decode b_Mo_minute 47 = .ok (.ladd, 1) := by decide +kernel
theorem d_Mo_minute_48 : decode b_Mo_minute 48 = .ok (.lstore_n 1, 1) := by decide +kernel
theorem d_Mo_minute_49 : decode b_Mo_minute 49 = .ok (.iinc 3 1, 3) := by decide +kernel
theorem d_Mo_minute_52 : decode b_Mo_minute 52 = .ok (.goto (-26), 3) := by decide +kernel
theorem d_Mo_minute_55 : decode b_Mo_minute 55 = .ok (.aload_n 0, 1) := by decide +kernel
theorem d_Mo_minute_56 : decode b_Mo_minute 56 = .ok (.getfield 67, 3) := by decide +kernel
theorem d_Mo_minute_59 : decode b_Mo_minute 59 = .ok (.iconst 1, 1) := by decide +kernel
theorem d_Mo_minute_60 : decode b_Mo_minute 60 = .ok (.lload_n 1, 1) := by decide +kernel
theorem d_Mo_minute_61 : decode b_Mo_minute 61 = .ok (.ldc2_w 151, 3) := by decide +kernel
theorem d_Mo_minute_64 : decode b_Mo_minute 64 = .ok (.aload_n 0, 1) := by decide +kernel
theorem d_Mo_minute_65 : decode b_Mo_minute 65 = .ok (.getfield 67, 3) := by decide +kernel
theorem d_Mo_minute_68 : decode b_Mo_minute 68 = .ok (.iconst 2, 1) := by decide +kernel
theorem d_Mo_minute_69 : decode b_Mo_minute 69 = .ok (.laload, 1) := by decide +kernel
theorem d_Mo_minute_70 : decode b_Mo_minute 70 = .ok (.lmul, 1) := by decide +kernel
theorem d_Mo_minute_71 : decode b_Mo_minute 71 = .ok (.lcmp, 1) := by decide +kernel
theorem d_Mo_minute_72 : decode b_Mo_minute 72 = .ok (.ifCond .le 18, 3) := by decide +kernel
theorem d_Mo_minute_75 : decode b_Mo_minute 75 = .ok (.lload_n 1, 1) := by decide +kernel
theorem d_Mo_minute_76 : decode b_Mo_minute 76 = .ok (.ldc2_w 151, 3) := by decide +kernel
theorem d_Mo_minute_79 : decode b_Mo_minute 79 = .ok (.aload_n 0, 1) := by decide +kernel
theorem d_Mo_minute_80 : decode b_Mo_minute 80 = .ok (.getfield 67, 3) := by decide +kernel
theorem d_Mo_minute_83 : decode b_Mo_minute 83 = .ok (.iconst 2, 1) := by decide +kernel
theorem d_Mo_minute_84 : decode b_Mo_minute 84 = .ok (.laload, 1) := by decide +kernel
theorem d_Mo_minute_85 : decode b_Mo_minute 85 = .ok (.lmul, 1) := by decide +kernel
theorem d_Mo_minute_86 : decode b_Mo_minute 86 = .ok (.lsub, 1) := by decide +kernel
theorem d_Mo_minute_87 : decode b_Mo_minute 87 = .ok (.goto 4, 3) := by decide +kernel
theorem d_Mo_minute_90 : decode b_Mo_minute 90 = .ok (.lconst 0, 1) := by decide +kernel
theorem d_Mo_minute_91 : decode b_Mo_minute 91 = .ok (.lastore, 1) := by decide +kernel
theorem d_Mo_minute_92 : decode b_Mo_minute 92 = .ok (.aload_n 0, 1) := by decide +kernel
theorem d_Mo_minute_93 : decode b_Mo_minute 93 = .ok (.aload_n 0, 1) := by decide +kernel
theorem d_Mo_minute_94 : decode b_Mo_minute 94 = .ok (.getfield 114, 3) := by decide +kernel
theorem d_Mo_minute_97 : decode b_Mo_minute 97 = .ok (.ifCond .eq 23, 3) := by decide +kernel
theorem d_Mo_minute_100 : decode b_Mo_minute 100 = .ok (.aload_n 0, 1) := by decide +kernel
theorem d_Mo_minute_101 : decode b_Mo_minute 101 = .ok (.getfield 70, 3) := by decide +kernel
theorem d_Mo_minute_104 : decode b_Mo_minute 104 = .ok (.bipush 9, 2) := by decide +kernel
theorem d_Mo_minute_106 : decode b_Mo_minute 106 = .ok (.laload, 1) := by decide +kernel
theorem d_Mo_minute_107 : decode b_Mo_minute 107 = .ok (.aload_n 0, 1) := by decide +kernel
theorem d_Mo_minute_108 : decode b_Mo_minute 108 = .ok (.getfield 118, 3) := by decide +kernel
theorem d_Mo_minute_111 : decode b_Mo_minute 111 = .ok (.i2l, 1) := by decide +kernel
theorem d_Mo_minute_112 : decode b_Mo_minute 112 = .ok (.lcmp, 1) := by decide +kernel
theorem d_Mo_minute_113 : decode b_Mo_minute 113 = .ok (.ifCond .ge 7, 3) := by decide +kernel
theorem d_Mo_minute_116 : decode b_Mo_minute 116 = .ok (.iconst 1, 1) := by decide +kernel
theorem d_Mo_minute_117 : decode b_Mo_minute 117 = .ok (.goto 4, 3) := by decide +kernel
theorem d_Mo_minute_120 : decode b_Mo_minute 120 = .ok (.iconst 0, 1) := by decide +kernel
theorem d_Mo_minute_121 : decode b_Mo_minute 121 = .ok (.putfield 153, 3) := by decide +kernel
theorem d_Mo_minute_124 : decode b_Mo_minute 124 = .ok (.aload_n 0, 1) := by decide +kernel
theorem d_Mo_minute_125 : decode b_Mo_minute 125 = .ok (.getfield 153, 3) := by decide +kernel
theorem d_Mo_minute_128 : decode b_Mo_minute 128 = .ok (.ifCond .eq 33, 3) := by decide +kernel
theorem d_Mo_minute_131 : decode b_Mo_minute 131 = .ok (.aload_n 0, 1) := by decide +kernel
theorem d_Mo_minute_132 : decode b_Mo_minute 132 = .ok (.getfield 70, 3) := by decide +kernel
theorem d_Mo_minute_135 : decode b_Mo_minute 135 = .ok (.bipush 9, 2) := by decide +kernel
theorem d_Mo_minute_137 : decode b_Mo_minute 137 = .ok (.dup2, 1) := by decide +kernel
theorem d_Mo_minute_138 : decode b_Mo_minute 138 = .ok (.laload, 1) := by decide +kernel
theorem d_Mo_minute_139 : decode b_Mo_minute 139 = .ok (.aload_n 0, 1) := by decide +kernel
theorem d_Mo_minute_140 : decode b_Mo_minute 140 = .ok (.getfield 121, 3) := by decide +kernel
theorem d_Mo_minute_143 : decode b_Mo_minute 143 = .ok (.i2l, 1) := by decide +kernel
theorem d_Mo_minute_144 : decode b_Mo_minute 144 = .ok (.ladd, 1) := by decide +kernel
theorem d_Mo_minute_145 : decode b_Mo_minute 145 = .ok (.lastore, 1) := by decide +kernel
theorem d_Mo_minute_146 : decode b_Mo_minute 146 = .ok (.aload_n 0, 1) := by decide +kernel
theorem d_Mo_minute_147 : decode b_Mo_minute 147 = .ok (.getfield 70, 3) := by decide +kernel
theorem d_Mo_minute_150 : decode b_Mo_minute 150 = .ok (.bipush 6, 2) := by decide +kernel
theorem d_Mo_minute_152 : decode b_Mo_minute 152 = .ok (.dup2, 1) := by decide +kernel
theorem d_Mo_minute_153 : decode b_Mo_minute 153 = .ok (.laload, 1) := by decide +kernel
theorem d_Mo_minute_154 : decode b_Mo_minute 154 = .ok (.aload_n 0, 1) := by decide +kernel
theorem d_Mo_minute_155 : decode b_Mo_minute 155 = .ok (.getfield 121, 3) := by decide +kernel
theorem d_Mo_minute_158 : decode b_Mo_minute 158 = .ok (.i2l, 1) := by decide +kernel
theorem d_Mo_minute_159 : decode b_Mo_minute 159 = .ok (.ladd, 1) := by decide +kernel
theorem d_Mo_minute_160 : decode b_Mo_minute 160 = .ok (.lastore, 1) := by decide +kernel
theorem d_Mo_minute_161 : decode b_Mo_minute 161 = .ok (.aload_n 0, 1) := by decide +kernel
theorem d_Mo_minute_162 : decode b_Mo_minute 162 = .ok (.getfield 67, 3) := by decide +kernel
theorem d_Mo_minute_165 : decode b_Mo_minute 165 = .ok (.iconst 0, 1) := by decide +kernel
theorem d_Mo_minute_166 : decode b_Mo_minute 166 = .ok (.aload_n 0, 1) := by decide +kernel
theorem d_Mo_minute_167 : decode b_Mo_minute 167 = .ok (.getfield 70, 3) := by decide +kernel
theorem d_Mo_minute_170 : decode b_Mo_minute 170 = .ok (.bipush 9, 2) := by decide +kernel
theorem d_Mo_minute_172 : decode b_Mo_minute 172 = .ok (.laload, 1) := by decide +kernel
theorem d_Mo_minute_173 : decode b_Mo_minute 173 = .ok (.aload_n 0, 1) := by decide +kernel
theorem d_Mo_minute_174 : decode b_Mo_minute 174 = .ok (.getfield 45, 3) := by decide +kernel
theorem d_Mo_minute_177 : decode b_Mo_minute 177 = .ok (.i2l, 1) := by decide +kernel
theorem d_Mo_minute_178 : decode b_Mo_minute 178 = .ok (.invokestatic 124, 3) := by decide +kernel
theorem d_Mo_minute_181 : decode b_Mo_minute 181 = .ok (.lastore, 1) := by decide +kernel
theorem d_Mo_minute_182 : decode b_Mo_minute 182 = .ok (.aload_n 0, 1) := by decide +kernel
theorem d_Mo_minute_183 : decode b_Mo_minute 183 = .ok (.getfield 70, 3) := by decide +kernel
theorem d_Mo_minute_186 : decode b_Mo_minute 186 = .ok (.bipush 9, 2) := by decide +kernel
theorem d_Mo_minute_188 : decode b_Mo_minute 188 = .ok (.dup2, 1) := by decide +kernel
theorem d_Mo_minute_189 : decode b_Mo_minute 189 = .ok (.laload, 1) := by decide +kernel
theorem d_Mo_minute_190 : decode b_Mo_minute 190 = .ok (.aload_n 0, 1) := by decide +kernel
theorem d_Mo_minute_191 : decode b_Mo_minute 191 = .ok (.getfield 67, 3) := by decide +kernel
theorem d_Mo_minute_194 : decode b_Mo_minute 194 = .ok (.iconst 0, 1) := by decide +kernel
theorem d_Mo_minute_195 : decode b_Mo_minute 195 = .ok (.laload, 1) := by decide +kernel
theorem d_Mo_minute_196 : decode b_Mo_minute 196 = .ok (.lsub, 1) := by decide +kernel
theorem d_Mo_minute_197 : decode b_Mo_minute 197 = .ok (.lastore, 1) := by decide +kernel
theorem d_Mo_minute_198 : decode b_Mo_minute 198 = .ok (.aload_n 0, 1) := by decide +kernel
theorem d_Mo_minute_199 : decode b_Mo_minute 199 = .ok (.getfield 70, 3) := by decide +kernel
theorem d_Mo_minute_202 : decode b_Mo_minute 202 = .ok (.bipush 7, 2) := by decide +kernel
theorem d_Mo_minute_204 : decode b_Mo_minute 204 = .ok (.dup2, 1) := by decide +kernel
theorem d_Mo_minute_205 : decode b_Mo_minute 205 = .ok (.laload, 1) := by decide +kernel
theorem d_Mo_minute_206 : decode b_Mo_minute 206 = .ok (.aload_n 0, 1) := by decide +kernel
theorem d_Mo_minute_207 : decode b_Mo_minute 207 = .ok (.getfield 67, 3) := by decide +kernel
theorem d_Mo_minute_210 : decode b_Mo_minute 210 = .ok (.iconst 0, 1) := by decide +kernel
theorem d_Mo_minute_211 : decode b_Mo_minute 211 = .ok (.laload, 1) := by decide +kernel
theorem d_Mo_minute_212 : decode b_Mo_minute 212 = .ok (.ladd, 1) := by decide +kernel
theorem d_Mo_minute_213 : decode b_Mo_minute 213 = .ok (.lastore, 1) := by decide +kernel
theorem d_Mo_minute_214 : decode b_Mo_minute 214 = .ok (.aload_n 0, 1) := by decide +kernel
theorem d_Mo_minute_215 : decode b_Mo_minute 215 = .ok (.iconst 0, 1) := by decide +kernel
theorem d_Mo_minute_216 : decode b_Mo_minute 216 = .ok (.invokevirtual 156, 3) := by decide +kernel
theorem d_Mo_minute_219 : decode b_Mo_minute 219 = .ok (.aload_n 0, 1) := by decide +kernel
theorem d_Mo_minute_220 : decode b_Mo_minute 220 = .ok (.iconst 1, 1) := by decide +kernel
theorem d_Mo_minute_221 : decode b_Mo_minute 221 = .ok (.invokevirtual 156, 3) := by decide +kernel
theorem d_Mo_minute_224 : decode b_Mo_minute 224 = .ok (.aload_n 0, 1) := by decide +kernel
theorem d_Mo_minute_225 : decode b_Mo_minute 225 = .ok (.dup, 1) := by decide +kernel
theorem d_Mo_minute_226 : decode b_Mo_minute 226 = .ok (.getfield 159, 3) := by decide +kernel
theorem d_Mo_minute_229 : decode b_Mo_minute 229 = .ok (.iconst 1, 1) := by decide +kernel
theorem d_Mo_minute_230 : decode b_Mo_minute 230 = .ok (.iadd, 1) := by decide +kernel
theorem d_Mo_minute_231 : decode b_Mo_minute 231 = .ok (.putfield 159, 3) := by decide +kernel
theorem d_Mo_minute_234 : decode b_Mo_minute 234 = .ok (.return_, 1) := by decide +kernel
theorem d_Mo_run_0 : decode b_Mo_run 0 = .ok (.iload_n 1, 1) := by decide +kernel
theorem d_Mo_run_1 : decode b_Mo_run 1 = .ok (.i2l, 1) := by decide +kernel
theorem d_Mo_run_2 : decode b_Mo_run 2 = .ok (.lconst 1, 1) := by decide +kernel
theorem d_Mo_run_3 : decode b_Mo_run 3 = .ok (.ldc2_w 79, 3) := by decide +kernel
theorem d_Mo_run_6 : decode b_Mo_run 6 = .ok (.invokestatic 85, 3) := by decide +kernel
theorem d_Mo_run_9 : decode b_Mo_run 9 = .ok (.ifCond .eq 15, 3) := by decide +kernel
theorem d_Mo_run_12 : decode b_Mo_run 12 = .ok (.aload_n 0, 1) := by decide +kernel
theorem d_Mo_run_13 : decode b_Mo_run 13 = .ok (.getfield 159, 3) := by decide +kernel
theorem d_Mo_run_16 : decode b_Mo_run 16 = .ok (.iload_n 1, 1) := by decide +kernel
theorem d_Mo_run_17 : decode b_Mo_run 17 = .ok (.iadd, 1) := by decide +kernel
theorem d_Mo_run_18 : decode b_Mo_run 18 = .ok (.sipush 20000, 3) := by decide +kernel
theorem d_Mo_run_21 : decode b_Mo_run 21 = .ok (.if_icmp .le 5, 3) := by decide +kernel
theorem d_Mo_run_24 : decode b_Mo_run 24 = .ok (.iconst (-1), 1) := by decide +kernel
theorem d_Mo_run_25 : decode b_Mo_run 25 = .ok (.ireturn, 1) := by decide +kernel
theorem d_Mo_run_26 : decode b_Mo_run 26 = .ok (.iconst 0, 1) := by decide +kernel
theorem d_Mo_run_27 : decode b_Mo_run 27 = .ok (.istore_n 2, 1) := by decide +kernel
theorem d_Mo_run_28 : decode b_Mo_run 28 = .ok (.iload_n 2, 1) := by decide +kernel
theorem d_Mo_run_29 : decode b_Mo_run 29 = .ok (.iload_n 1, 1) := by decide +kernel
theorem d_Mo_run_30 : decode b_Mo_run 30 = .ok (.if_icmp .ge 13, 3) := by decide +kernel
theorem d_Mo_run_33 : decode b_Mo_run 33 = .ok (.aload_n 0, 1) := by decide +kernel
theorem d_Mo_run_34 : decode b_Mo_run 34 = .ok (.invokevirtual 162, 3) := by decide +kernel
theorem d_Mo_run_37 : decode b_Mo_run 37 = .ok (.iinc 2 1, 3) := by decide +kernel
theorem d_Mo_run_40 : decode b_Mo_run 40 = .ok (.goto (-12), 3) := by decide +kernel
theorem d_Mo_run_43 : decode b_Mo_run 43 = .ok (.aload_n 0, 1) := by decide +kernel
theorem d_Mo_run_44 : decode b_Mo_run 44 = .ok (.getfield 159, 3) := by decide +kernel
theorem d_Mo_run_47 : decode b_Mo_run 47 = .ok (.ireturn, 1) := by decide +kernel
theorem d_Mo_bed_0 : decode b_Mo_bed 0 = .ok (.aload_n 0, 1) := by decide +kernel
theorem d_Mo_bed_1 : decode b_Mo_bed 1 = .ok (.iload_n 1, 1) := by decide +kernel
theorem d_Mo_bed_2 : decode b_Mo_bed 2 = .ok (.invokevirtual 105, 3) := by decide +kernel
theorem d_Mo_bed_5 : decode b_Mo_bed 5 = .ok (.ifCond .ne 7, 3) := by decide +kernel
theorem d_Mo_bed_8 : decode b_Mo_bed 8 = .ok (.ldc2_w 165, 3) := by decide +kernel
theorem d_Mo_bed_11 : decode b_Mo_bed 11 = .ok (.lreturn, 1) := by decide +kernel
theorem d_Mo_bed_12 : decode b_Mo_bed 12 = .ok (.iload_n 2, 1) := by decide +kernel
theorem d_Mo_bed_13 : decode b_Mo_bed 13 = .ok (.tableswitch 60 0 3 #[31, 38, 45, 52], 31) := by decide +kernel
theorem d_Mo_bed_44 : decode b_Mo_bed 44 = .ok (.aload_n 0, 1) := by decide +kernel
theorem d_Mo_bed_45 : decode b_Mo_bed 45 = .ok (.getfield 26, 3) := by decide +kernel
theorem d_Mo_bed_48 : decode b_Mo_bed 48 = .ok (.iload_n 1, 1) := by decide +kernel
theorem d_Mo_bed_49 : decode b_Mo_bed 49 = .ok (.laload, 1) := by decide +kernel
theorem d_Mo_bed_50 : decode b_Mo_bed 50 = .ok (.lreturn, 1) := by decide +kernel
theorem d_Mo_bed_51 : decode b_Mo_bed 51 = .ok (.aload_n 0, 1) := by decide +kernel
theorem d_Mo_bed_52 : decode b_Mo_bed 52 = .ok (.getfield 30, 3) := by decide +kernel
theorem d_Mo_bed_55 : decode b_Mo_bed 55 = .ok (.iload_n 1, 1) := by decide +kernel
theorem d_Mo_bed_56 : decode b_Mo_bed 56 = .ok (.laload, 1) := by decide +kernel
theorem d_Mo_bed_57 : decode b_Mo_bed 57 = .ok (.lreturn, 1) := by decide +kernel
theorem d_Mo_bed_58 : decode b_Mo_bed 58 = .ok (.aload_n 0, 1) := by decide +kernel
theorem d_Mo_bed_59 : decode b_Mo_bed 59 = .ok (.getfield 33, 3) := by decide +kernel
theorem d_Mo_bed_62 : decode b_Mo_bed 62 = .ok (.iload_n 1, 1) := by decide +kernel
theorem d_Mo_bed_63 : decode b_Mo_bed 63 = .ok (.laload, 1) := by decide +kernel
theorem d_Mo_bed_64 : decode b_Mo_bed 64 = .ok (.lreturn, 1) := by decide +kernel
theorem d_Mo_bed_65 : decode b_Mo_bed 65 = .ok (.aload_n 0, 1) := by decide +kernel
theorem d_Mo_bed_66 : decode b_Mo_bed 66 = .ok (.getfield 36, 3) := by decide +kernel
theorem d_Mo_bed_69 : decode b_Mo_bed 69 = .ok (.iload_n 1, 1) := by decide +kernel
theorem d_Mo_bed_70 : decode b_Mo_bed 70 = .ok (.iaload, 1) := by decide +kernel
theorem d_Mo_bed_71 : decode b_Mo_bed 71 = .ok (.i2l, 1) := by decide +kernel
theorem d_Mo_bed_72 : decode b_Mo_bed 72 = .ok (.lreturn, 1) := by decide +kernel
theorem d_Mo_bed_73 : decode b_Mo_bed 73 = .ok (.ldc2_w 165, 3) := by decide +kernel
theorem d_Mo_bed_76 : decode b_Mo_bed 76 = .ok (.lreturn, 1) := by decide +kernel
theorem d_Mo_gas_0 : decode b_Mo_gas 0 = .ok (.iload_n 1, 1) := by decide +kernel
theorem d_Mo_gas_1 : decode b_Mo_gas 1 = .ok (.i2l, 1) := by decide +kernel
theorem d_Mo_gas_2 : decode b_Mo_gas 2 = .ok (.lconst 0, 1) := by decide +kernel
theorem d_Mo_gas_3 : decode b_Mo_gas 3 = .ok (.ldc2_w 167, 3) := by decide +kernel
theorem d_Mo_gas_6 : decode b_Mo_gas 6 = .ok (.invokestatic 85, 3) := by decide +kernel
theorem d_Mo_gas_9 : decode b_Mo_gas 9 = .ok (.ifCond .eq 12, 3) := by decide +kernel
theorem d_Mo_gas_12 : decode b_Mo_gas 12 = .ok (.aload_n 0, 1) := by decide +kernel
theorem d_Mo_gas_13 : decode b_Mo_gas 13 = .ok (.getfield 67, 3) := by decide +kernel
theorem d_Mo_gas_16 : decode b_Mo_gas 16 = .ok (.iload_n 1, 1) := by decide +kernel
theorem d_Mo_gas_17 : decode b_Mo_gas 17 = .ok (.laload, 1) := by decide +kernel
theorem d_Mo_gas_18 : decode b_Mo_gas 18 = .ok (.goto 6, 3) := by decide +kernel
theorem d_Mo_gas_21 : decode b_Mo_gas 21 = .ok (.ldc2_w 165, 3) := by decide +kernel
theorem d_Mo_gas_24 : decode b_Mo_gas 24 = .ok (.lreturn, 1) := by decide +kernel
theorem d_Mo_output_0 : decode b_Mo_output 0 = .ok (.iload_n 1, 1) := by decide +kernel
theorem d_Mo_output_1 : decode b_Mo_output 1 = .ok (.i2l, 1) := by decide +kernel
theorem d_Mo_output_2 : decode b_Mo_output 2 = .ok (.lconst 0, 1) := by decide +kernel
theorem d_Mo_output_3 : decode b_Mo_output 3 = .ok (.lconst 1, 1) := by decide +kernel
theorem d_Mo_output_4 : decode b_Mo_output 4 = .ok (.invokestatic 85, 3) := by decide +kernel
theorem d_Mo_output_7 : decode b_Mo_output 7 = .ok (.ifCond .eq 21, 3) := by decide +kernel
theorem d_Mo_output_10 : decode b_Mo_output 10 = .ok (.aload_n 0, 1) := by decide +kernel
theorem d_Mo_output_11 : decode b_Mo_output 11 = .ok (.getfield 48, 3) := by decide +kernel
theorem d_Mo_output_14 : decode b_Mo_output 14 = .ok (.iload_n 1, 1) := by decide +kernel
theorem d_Mo_output_15 : decode b_Mo_output 15 = .ok (.baload, 1) := by decide +kernel
theorem d_Mo_output_16 : decode b_Mo_output 16 = .ok (.ifCond .eq 12, 3) := by decide +kernel
theorem d_Mo_output_19 : decode b_Mo_output 19 = .ok (.aload_n 0, 1) := by decide +kernel
theorem d_Mo_output_20 : decode b_Mo_output 20 = .ok (.getfield 64, 3) := by decide +kernel
theorem d_Mo_output_23 : decode b_Mo_output 23 = .ok (.iload_n 1, 1) := by decide +kernel
theorem d_Mo_output_24 : decode b_Mo_output 24 = .ok (.iaload, 1) := by decide +kernel
theorem d_Mo_output_25 : decode b_Mo_output 25 = .ok (.goto 4, 3) := by decide +kernel
theorem d_Mo_output_28 : decode b_Mo_output 28 = .ok (.iconst (-1), 1) := by decide +kernel
theorem d_Mo_output_29 : decode b_Mo_output 29 = .ok (.ireturn, 1) := by decide +kernel
theorem d_Mo_burning_0 : decode b_Mo_burning 0 = .ok (.aload_n 0, 1) := by decide +kernel
theorem d_Mo_burning_1 : decode b_Mo_burning 1 = .ok (.getfield 153, 3) := by decide +kernel
theorem d_Mo_burning_4 : decode b_Mo_burning 4 = .ok (.ireturn, 1) := by decide +kernel
theorem d_Mo_ash_0 : decode b_Mo_ash 0 = .ok (.iload_n 1, 1) := by decide +kernel
theorem d_Mo_ash_1 : decode b_Mo_ash 1 = .ok (.i2l, 1) := by decide +kernel
theorem d_Mo_ash_2 : decode b_Mo_ash 2 = .ok (.lconst 0, 1) := by decide +kernel
theorem d_Mo_ash_3 : decode b_Mo_ash 3 = .ok (.ldc2_w 169, 3) := by decide +kernel
theorem d_Mo_ash_6 : decode b_Mo_ash 6 = .ok (.invokestatic 85, 3) := by decide +kernel
theorem d_Mo_ash_9 : decode b_Mo_ash 9 = .ok (.ifCond .eq 12, 3) := by decide +kernel
theorem d_Mo_ash_12 : decode b_Mo_ash 12 = .ok (.aload_n 0, 1) := by decide +kernel
theorem d_Mo_ash_13 : decode b_Mo_ash 13 = .ok (.getfield 70, 3) := by decide +kernel
theorem d_Mo_ash_16 : decode b_Mo_ash 16 = .ok (.iload_n 1, 1) := by decide +kernel
theorem d_Mo_ash_17 : decode b_Mo_ash 17 = .ok (.laload, 1) := by decide +kernel
theorem d_Mo_ash_18 : decode b_Mo_ash 18 = .ok (.goto 6, 3) := by decide +kernel
theorem d_Mo_ash_21 : decode b_Mo_ash 21 = .ok (.ldc2_w 165, 3) := by decide +kernel
theorem d_Mo_ash_24 : decode b_Mo_ash 24 = .ok (.lreturn, 1) := by decide +kernel
theorem d_Mo_balance_0 : decode b_Mo_balance 0 = .ok (.iload_n 1, 1) := by decide +kernel
theorem d_Mo_balance_1 : decode b_Mo_balance 1 = .ok (.iconst 1, 1) := by decide +kernel
theorem d_Mo_balance_2 : decode b_Mo_balance 2 = .ok (.if_icmp .ne 42, 3) := by decide +kernel
theorem d_Mo_balance_5 : decode b_Mo_balance 5 = .ok (.aload_n 0, 1) := by decide +kernel
theorem d_Mo_balance_6 : decode b_Mo_balance 6 = .ok (.getfield 70, 3) := by decide +kernel
theorem d_Mo_balance_9 : decode b_Mo_balance 9 = .ok (.iconst 5, 1) := by decide +kernel
theorem d_Mo_balance_10 : decode b_Mo_balance 10 = .ok (.laload, 1) := by decide +kernel
theorem d_Mo_balance_11 : decode b_Mo_balance 11 = .ok (.aload_n 0, 1) := by decide +kernel
theorem d_Mo_balance_12 : decode b_Mo_balance 12 = .ok (.getfield 70, 3) := by decide +kernel
theorem d_Mo_balance_15 : decode b_Mo_balance 15 = .ok (.bipush 6, 2) := by decide +kernel
theorem d_Mo_balance_17 : decode b_Mo_balance 17 = .ok (.laload, 1) := by decide +kernel
theorem d_Mo_balance_18 : decode b_Mo_balance 18 = .ok (.ladd, 1) := by decide +kernel
theorem d_Mo_balance_19 : decode b_Mo_balance 19 = .ok (.aload_n 0, 1) := by decide +kernel
theorem d_Mo_balance_20 : decode b_Mo_balance 20 = .ok (.getfield 70, 3) := by decide +kernel
theorem d_Mo_balance_23 : decode b_Mo_balance 23 = .ok (.bipush 7, 2) := by decide +kernel
theorem d_Mo_balance_25 : decode b_Mo_balance 25 = .ok (.laload, 1) := by decide +kernel
theorem d_Mo_balance_26 : decode b_Mo_balance 26 = .ok (.lsub, 1) := by decide +kernel
theorem d_Mo_balance_27 : decode b_Mo_balance 27 = .ok (.aload_n 0, 1) := by decide +kernel
theorem d_Mo_balance_28 : decode b_Mo_balance 28 = .ok (.getfield 70, 3) := by decide +kernel
theorem d_Mo_balance_31 : decode b_Mo_balance 31 = .ok (.bipush 8, 2) := by decide +kernel
theorem d_Mo_balance_33 : decode b_Mo_balance 33 = .ok (.laload, 1) := by decide +kernel
theorem d_Mo_balance_34 : decode b_Mo_balance 34 = .ok (.lsub, 1) := by decide +kernel
theorem d_Mo_balance_35 : decode b_Mo_balance 35 = .ok (.aload_n 0, 1) := by decide +kernel
theorem d_Mo_balance_36 : decode b_Mo_balance 36 = .ok (.getfield 70, 3) := by decide +kernel
theorem d_Mo_balance_39 : decode b_Mo_balance 39 = .ok (.bipush 9, 2) := by decide +kernel
theorem d_Mo_balance_41 : decode b_Mo_balance 41 = .ok (.laload, 1) := by decide +kernel
theorem d_Mo_balance_42 : decode b_Mo_balance 42 = .ok (.lsub, 1) := by decide +kernel
theorem d_Mo_balance_43 : decode b_Mo_balance 43 = .ok (.lreturn, 1) := by decide +kernel
theorem d_Mo_balance_44 : decode b_Mo_balance 44 = .ok (.aload_n 0, 1) := by decide +kernel
theorem d_Mo_balance_45 : decode b_Mo_balance 45 = .ok (.getfield 70, 3) := by decide +kernel
theorem d_Mo_balance_48 : decode b_Mo_balance 48 = .ok (.iconst 0, 1) := by decide +kernel
theorem d_Mo_balance_49 : decode b_Mo_balance 49 = .ok (.laload, 1) := by decide +kernel
theorem d_Mo_balance_50 : decode b_Mo_balance 50 = .ok (.aload_n 0, 1) := by decide +kernel
theorem d_Mo_balance_51 : decode b_Mo_balance 51 = .ok (.getfield 70, 3) := by decide +kernel
theorem d_Mo_balance_54 : decode b_Mo_balance 54 = .ok (.iconst 1, 1) := by decide +kernel
theorem d_Mo_balance_55 : decode b_Mo_balance 55 = .ok (.laload, 1) := by decide +kernel
theorem d_Mo_balance_56 : decode b_Mo_balance 56 = .ok (.lsub, 1) := by decide +kernel
theorem d_Mo_balance_57 : decode b_Mo_balance 57 = .ok (.aload_n 0, 1) := by decide +kernel
theorem d_Mo_balance_58 : decode b_Mo_balance 58 = .ok (.getfield 70, 3) := by decide +kernel
theorem d_Mo_balance_61 : decode b_Mo_balance 61 = .ok (.iconst 2, 1) := by decide +kernel
theorem d_Mo_balance_62 : decode b_Mo_balance 62 = .ok (.laload, 1) := by decide +kernel
theorem d_Mo_balance_63 : decode b_Mo_balance 63 = .ok (.lsub, 1) := by decide +kernel
theorem d_Mo_balance_64 : decode b_Mo_balance 64 = .ok (.aload_n 0, 1) := by decide +kernel
theorem d_Mo_balance_65 : decode b_Mo_balance 65 = .ok (.getfield 70, 3) := by decide +kernel
theorem d_Mo_balance_68 : decode b_Mo_balance 68 = .ok (.iconst 3, 1) := by decide +kernel
theorem d_Mo_balance_69 : decode b_Mo_balance 69 = .ok (.laload, 1) := by decide +kernel
theorem d_Mo_balance_70 : decode b_Mo_balance 70 = .ok (.lsub, 1) := by decide +kernel
theorem d_Mo_balance_71 : decode b_Mo_balance 71 = .ok (.aload_n 0, 1) := by decide +kernel
theorem d_Mo_balance_72 : decode b_Mo_balance 72 = .ok (.getfield 70, 3) := by decide +kernel
theorem d_Mo_balance_75 : decode b_Mo_balance 75 = .ok (.iconst 4, 1) := by decide +kernel
theorem d_Mo_balance_76 : decode b_Mo_balance 76 = .ok (.laload, 1) := by decide +kernel
theorem d_Mo_balance_77 : decode b_Mo_balance 77 = .ok (.lsub, 1) := by decide +kernel
theorem d_Mo_balance_78 : decode b_Mo_balance 78 = .ok (.lstore_n 2, 1) := by decide +kernel
theorem d_Mo_balance_79 : decode b_Mo_balance 79 = .ok (.iconst 0, 1) := by decide +kernel
theorem d_Mo_balance_80 : decode b_Mo_balance 80 = .ok (.istore 4, 2) := by decide +kernel
theorem d_Mo_balance_82 : decode b_Mo_balance 82 = .ok (.iload 4, 2) := by decide +kernel
theorem d_Mo_balance_84 : decode b_Mo_balance 84 = .ok (.bipush 6, 2) := by decide +kernel
theorem d_Mo_balance_86 : decode b_Mo_balance 86 = .ok (.if_icmp .ge 19, 3) := by decide +kernel
theorem d_Mo_balance_89 : decode b_Mo_balance 89 = .ok (.lload_n 2, 1) := by decide +kernel
theorem d_Mo_balance_90 : decode b_Mo_balance 90 = .ok (.aload_n 0, 1) := by decide +kernel
theorem d_Mo_balance_91 : decode b_Mo_balance 91 = .ok (.iload 4, 2) := by decide +kernel
theorem d_Mo_balance_93 : decode b_Mo_balance 93 = .ok (.invokevirtual 94, 3) := by decide +kernel
theorem d_Mo_balance_96 : decode b_Mo_balance 96 = .ok (.i2l, 1) := by decide +kernel
theorem d_Mo_balance_97 : decode b_Mo_balance 97 = .ok (.lsub, 1) := by decide +kernel
theorem d_Mo_balance_98 : decode b_Mo_balance 98 = .ok (.lstore_n 2, 1) := by decide +kernel
theorem d_Mo_balance_99 : decode b_Mo_balance 99 = .ok (.iinc 4 1, 3) := by decide +kernel
theorem d_Mo_balance_102 : decode b_Mo_balance 102 = .ok (.goto (-20), 3) := by decide +kernel
theorem d_Mo_balance_105 : decode b_Mo_balance 105 = .ok (.iconst 0, 1) := by decide +kernel
theorem d_Mo_balance_106 : decode b_Mo_balance 106 = .ok (.istore 4, 2) := by decide +kernel
theorem d_Mo_balance_108 : decode b_Mo_balance 108 = .ok (.iload 4, 2) := by decide +kernel
theorem d_Mo_balance_110 : decode b_Mo_balance 110 = .ok (.iconst 4, 1) := by decide +kernel
theorem d_Mo_balance_111 : decode b_Mo_balance 111 = .ok (.if_icmp .ge 20, 3) := by decide +kernel
theorem d_Mo_balance_114 : decode b_Mo_balance 114 = .ok (.lload_n 2, 1) := by decide +kernel
theorem d_Mo_balance_115 : decode b_Mo_balance 115 = .ok (.aload_n 0, 1) := by decide +kernel
theorem d_Mo_balance_116 : decode b_Mo_balance 116 = .ok (.getfield 23, 3) := by decide +kernel
theorem d_Mo_balance_119 : decode b_Mo_balance 119 = .ok (.iload 4, 2) := by decide +kernel
theorem d_Mo_balance_121 : decode b_Mo_balance 121 = .ok (.iaload, 1) := by decide +kernel
theorem d_Mo_balance_122 : decode b_Mo_balance 122 = .ok (.i2l, 1) := by decide +kernel
theorem d_Mo_balance_123 : decode b_Mo_balance 123 = .ok (.lsub, 1) := by decide +kernel
theorem d_Mo_balance_124 : decode b_Mo_balance 124 = .ok (.lstore_n 2, 1) := by decide +kernel
theorem d_Mo_balance_125 : decode b_Mo_balance 125 = .ok (.iinc 4 1, 3) := by decide +kernel
theorem d_Mo_balance_128 : decode b_Mo_balance 128 = .ok (.goto (-20), 3) := by decide +kernel
theorem d_Mo_balance_131 : decode b_Mo_balance 131 = .ok (.iconst 0, 1) := by decide +kernel
theorem d_Mo_balance_132 : decode b_Mo_balance 132 = .ok (.istore 4, 2) := by decide +kernel
theorem d_Mo_balance_134 : decode b_Mo_balance 134 = .ok (.iload 4, 2) := by decide +kernel
theorem d_Mo_balance_136 : decode b_Mo_balance 136 = .ok (.aload_n 0, 1) := by decide +kernel
theorem d_Mo_balance_137 : decode b_Mo_balance 137 = .ok (.getfield 76, 3) := by decide +kernel
theorem d_Mo_balance_140 : decode b_Mo_balance 140 = .ok (.if_icmp .ge 35, 3) := by decide +kernel
theorem d_Mo_balance_143 : decode b_Mo_balance 143 = .ok (.lload_n 2, 1) := by decide +kernel
theorem d_Mo_balance_144 : decode b_Mo_balance 144 = .ok (.aload_n 0, 1) := by decide +kernel
theorem d_Mo_balance_145 : decode b_Mo_balance 145 = .ok (.getfield 26, 3) := by decide +kernel
theorem d_Mo_balance_148 : decode b_Mo_balance 148 = .ok (.iload 4, 2) := by decide +kernel
theorem d_Mo_balance_150 : decode b_Mo_balance 150 = .ok (.laload, 1) := by decide +kernel
theorem d_Mo_balance_151 : decode b_Mo_balance 151 = .ok (.aload_n 0, 1) := by decide +kernel
theorem d_Mo_balance_152 : decode b_Mo_balance 152 = .ok (.getfield 30, 3) := by decide +kernel
theorem d_Mo_balance_155 : decode b_Mo_balance 155 = .ok (.iload 4, 2) := by decide +kernel
theorem d_Mo_balance_157 : decode b_Mo_balance 157 = .ok (.laload, 1) := by decide +kernel
theorem d_Mo_balance_158 : decode b_Mo_balance 158 = .ok (.ladd, 1) := by decide +kernel
theorem d_Mo_balance_159 : decode b_Mo_balance 159 = .ok (.aload_n 0, 1) := by decide +kernel
theorem d_Mo_balance_160 : decode b_Mo_balance 160 = .ok (.getfield 33, 3) := by decide +kernel
theorem d_Mo_balance_163 : decode b_Mo_balance 163 = .ok (.iload 4, 2) := by decide +kernel
theorem d_Mo_balance_165 : decode b_Mo_balance 165 = .ok (.laload, 1) := by decide +kernel
theorem d_Mo_balance_166 : decode b_Mo_balance 166 = .ok (.ladd, 1) := by decide +kernel
theorem d_Mo_balance_167 : decode b_Mo_balance 167 = .ok (.lsub, 1) := by decide +kernel
theorem d_Mo_balance_168 : decode b_Mo_balance 168 = .ok (.lstore_n 2, 1) := by decide +kernel
theorem d_Mo_balance_169 : decode b_Mo_balance 169 = .ok (.iinc 4 1, 3) := by decide +kernel
theorem d_Mo_balance_172 : decode b_Mo_balance 172 = .ok (.goto (-38), 3) := by decide +kernel
theorem d_Mo_balance_175 : decode b_Mo_balance 175 = .ok (.iload_n 1, 1) := by decide +kernel
theorem d_Mo_balance_176 : decode b_Mo_balance 176 = .ok (.ifCond .ne 7, 3) := by decide +kernel
theorem d_Mo_balance_179 : decode b_Mo_balance 179 = .ok (.lload_n 2, 1) := by decide +kernel
theorem d_Mo_balance_180 : decode b_Mo_balance 180 = .ok (.goto 6, 3) := by decide +kernel
theorem d_Mo_balance_183 : decode b_Mo_balance 183 = .ok (.ldc2_w 165, 3) := by decide +kernel
theorem d_Mo_balance_186 : decode b_Mo_balance 186 = .ok (.lreturn, 1) := by decide +kernel
theorem d_Mo_cellOf_0 : decode b_Mo_cellOf 0 = .ok (.iload_n 0, 1) := by decide +kernel
theorem d_Mo_cellOf_1 : decode b_Mo_cellOf 1 = .ok (.istore_n 3, 1) := by decide +kernel
theorem d_Mo_cellOf_2 : decode b_Mo_cellOf 2 = .ok (.iload_n 2, 1) := by decide +kernel
theorem d_Mo_cellOf_3 : decode b_Mo_cellOf 3 = .ok (.iconst 1, 1) := by decide +kernel
theorem d_Mo_cellOf_4 : decode b_Mo_cellOf 4 = .ok (.isub, 1) := by decide +kernel
theorem d_Mo_cellOf_5 : decode b_Mo_cellOf 5 = .ok (.istore 4, 2) := by decide +kernel
theorem d_Mo_cellOf_7 : decode b_Mo_cellOf 7 = .ok (.iload 4, 2) := by decide +kernel
theorem d_Mo_cellOf_9 : decode b_Mo_cellOf 9 = .ok (.iload_n 1, 1) := by decide +kernel
theorem d_Mo_cellOf_10 : decode b_Mo_cellOf 10 = .ok (.if_icmp .le 14, 3) := by decide +kernel
theorem d_Mo_cellOf_13 : decode b_Mo_cellOf 13 = .ok (.iload_n 3, 1) := by decide +kernel
theorem d_Mo_cellOf_14 : decode b_Mo_cellOf 14 = .ok (.bipush 6, 2) := by decide +kernel
theorem d_Mo_cellOf_16 : decode b_Mo_cellOf 16 = .ok (.idiv, 1) := by decide +kernel
theorem d_Mo_cellOf_17 : decode b_Mo_cellOf 17 = .ok (.istore_n 3, 1) := by decide +kernel
theorem d_Mo_cellOf_18 : decode b_Mo_cellOf 18 = .ok (.iinc 4 (-1), 3) := by decide +kernel
theorem d_Mo_cellOf_21 : decode b_Mo_cellOf 21 = .ok (.goto (-14), 3) := by decide +kernel
theorem d_Mo_cellOf_24 : decode b_Mo_cellOf 24 = .ok (.iload_n 3, 1) := by decide +kernel
theorem d_Mo_cellOf_25 : decode b_Mo_cellOf 25 = .ok (.bipush 6, 2) := by decide +kernel
theorem d_Mo_cellOf_27 : decode b_Mo_cellOf 27 = .ok (.irem, 1) := by decide +kernel
theorem d_Mo_cellOf_28 : decode b_Mo_cellOf 28 = .ok (.ireturn, 1) := by decide +kernel
theorem d_Mo_spreadOf_0 : decode b_Mo_spreadOf 0 = .ok (.iconst (-1), 1) := by decide +kernel
theorem d_Mo_spreadOf_1 : decode b_Mo_spreadOf 1 = .ok (.istore_n 3, 1) := by decide +kernel
theorem d_Mo_spreadOf_2 : decode b_Mo_spreadOf 2 = .ok (.iconst 0, 1) := by decide +kernel
theorem d_Mo_spreadOf_3 : decode b_Mo_spreadOf 3 = .ok (.istore 4, 2) := by decide +kernel
theorem d_Mo_spreadOf_5 : decode b_Mo_spreadOf 5 = .ok (.iconst 0, 1) := by decide +kernel
theorem d_Mo_spreadOf_6 : decode b_Mo_spreadOf 6 = .ok (.istore 5, 2) := by decide +kernel
theorem d_Mo_spreadOf_8 : decode b_Mo_spreadOf 8 = .ok (.iload 5, 2) := by decide +kernel
theorem d_Mo_spreadOf_10 : decode b_Mo_spreadOf 10 = .ok (.iconst 4, 1) := by decide +kernel
theorem d_Mo_spreadOf_11 : decode b_Mo_spreadOf 11 = .ok (.if_icmp .ge 108, 3) := by decide +kernel
theorem d_Mo_spreadOf_14 : decode b_Mo_spreadOf 14 = .ok (.iconst 0, 1) := by decide +kernel
theorem d_Mo_spreadOf_15 : decode b_Mo_spreadOf 15 = .ok (.istore 6, 2) := by decide +kernel
theorem d_Mo_spreadOf_17 : decode b_Mo_spreadOf 17 = .ok (.iconst 0, 1) := by decide +kernel
theorem d_Mo_spreadOf_18 : decode b_Mo_spreadOf 18 = .ok (.istore 7, 2) := by decide +kernel
theorem d_Mo_spreadOf_20 : decode b_Mo_spreadOf 20 = .ok (.iload 7, 2) := by decide +kernel
theorem d_Mo_spreadOf_22 : decode b_Mo_spreadOf 22 = .ok (.iload_n 2, 1) := by decide +kernel
theorem d_Mo_spreadOf_23 : decode b_Mo_spreadOf 23 = .ok (.if_icmp .ge 57, 3) := by decide +kernel
theorem d_Mo_spreadOf_26 : decode b_Mo_spreadOf 26 = .ok (.iload_n 1, 1) := by decide +kernel
theorem d_Mo_spreadOf_27 : decode b_Mo_spreadOf 27 = .ok (.iload 7, 2) := by decide +kernel
theorem d_Mo_spreadOf_29 : decode b_Mo_spreadOf 29 = .ok (.iload_n 2, 1) := by decide +kernel
theorem d_Mo_spreadOf_30 : decode b_Mo_spreadOf 30 = .ok (.invokestatic 171, 3) := by decide +kernel
theorem d_Mo_spreadOf_33 : decode b_Mo_spreadOf 33 = .ok (.istore 8, 2) := by decide +kernel
theorem d_Mo_spreadOf_35 : decode b_Mo_spreadOf 35 = .ok (.aload_n 0, 1) := by decide +kernel
theorem d_Mo_spreadOf_36 : decode b_Mo_spreadOf 36 = .ok (.iload 8, 2) := by decide +kernel
theorem d_Mo_spreadOf_38 : decode b_Mo_spreadOf 38 = .ok (.invokevirtual 94, 3) := by decide +kernel
theorem d_Mo_spreadOf_41 : decode b_Mo_spreadOf 41 = .ok (.ifCond .ne 5, 3) := by decide +kernel
theorem d_Mo_spreadOf_44 : decode b_Mo_spreadOf 44 = .ok (.iconst (-1), 1) := by decide +kernel
theorem d_Mo_spreadOf_45 : decode b_Mo_spreadOf 45 = .ok (.ireturn, 1) := by decide +kernel
theorem d_Mo_spreadOf_46 : decode b_Mo_spreadOf 46 = .ok (.iload 6, 2) := by decide +kernel
theorem d_Mo_spreadOf_48 : decode b_Mo_spreadOf 48 = .ok (.aload_n 0, 1) := by decide +kernel
theorem d_Mo_spreadOf_49 : decode b_Mo_spreadOf 49 = .ok (.getfield 16, 3) := by decide +kernel
theorem d_Mo_spreadOf_52 : decode b_Mo_spreadOf 52 = .ok (.iconst 4, 1) := by decide +kernel
theorem d_Mo_spreadOf_53 : decode b_Mo_spreadOf 53 = .ok (.iload 8, 2) := by decide +kernel
theorem d_Mo_spreadOf_55 : decode b_Mo_spreadOf 55 = .ok (.imul, 1) := by decide +kernel
theorem d_Mo_spreadOf_56 : decode b_Mo_spreadOf 56 = .ok (.iload 5, 2) := by decide +kernel
theorem d_Mo_spreadOf_58 : decode b_Mo_spreadOf 58 = .ok (.iadd, 1) := by decide +kernel
theorem d_Mo_spreadOf_59 : decode b_Mo_spreadOf 59 = .ok (.iaload, 1) := by decide +kernel
theorem d_Mo_spreadOf_60 : decode b_Mo_spreadOf 60 = .ok (.sipush 1000, 3) := by decide +kernel
theorem d_Mo_spreadOf_63 : decode b_Mo_spreadOf 63 = .ok (.imul, 1) := by decide +kernel
theorem d_Mo_spreadOf_64 : decode b_Mo_spreadOf 64 = .ok (.aload_n 0, 1) := by decide +kernel
theorem d_Mo_spreadOf_65 : decode b_Mo_spreadOf 65 = .ok (.iload 8, 2) := by decide +kernel
theorem d_Mo_spreadOf_67 : decode b_Mo_spreadOf 67 = .ok (.invokevirtual 94, 3) := by decide +kernel
theorem d_Mo_spreadOf_70 : decode b_Mo_spreadOf 70 = .ok (.idiv, 1) := by decide +kernel
theorem d_Mo_spreadOf_71 : decode b_Mo_spreadOf 71 = .ok (.iadd, 1) := by decide +kernel
theorem d_Mo_spreadOf_72 : decode b_Mo_spreadOf 72 = .ok (.istore 6, 2) := by decide +kernel
theorem d_Mo_spreadOf_74 : decode b_Mo_spreadOf 74 = .ok (.iinc 7 1, 3) := by decide +kernel
theorem d_Mo_spreadOf_77 : decode b_Mo_spreadOf 77 = .ok (.goto (-57), 3) := by decide +kernel
theorem d_Mo_spreadOf_80 : decode b_Mo_spreadOf 80 = .ok (.iload_n 3, 1) := by decide +kernel
theorem d_Mo_spreadOf_81 : decode b_Mo_spreadOf 81 = .ok (.ifCond .lt 10, 3) := by decide +kernel
theorem d_Mo_spreadOf_84 : decode b_Mo_spreadOf 84 = .ok (.iload 6, 2) := by decide +kernel
theorem d_Mo_spreadOf_86 : decode b_Mo_spreadOf 86 = .ok (.iload 4, 2) := by decide +kernel
theorem d_Mo_spreadOf_88 : decode b_Mo_spreadOf 88 = .ok (.if_icmp .ge 8, 3) := by decide +kernel
theorem d_Mo_spreadOf_91 : decode b_Mo_spreadOf 91 = .ok (.iload 6, 2) := by decide +kernel
theorem d_Mo_spreadOf_93 : decode b_Mo_spreadOf 93 = .ok (.goto 5, 3) := by decide +kernel
theorem d_Mo_spreadOf_96 : decode b_Mo_spreadOf 96 = .ok (.iload 4, 2) := by decide +kernel
theorem d_Mo_spreadOf_98 : decode b_Mo_spreadOf 98 = .ok (.istore 4, 2) := by decide +kernel
theorem d_Mo_spreadOf_100 : decode b_Mo_spreadOf 100 = .ok (.iload 6, 2) := by decide +kernel
theorem d_Mo_spreadOf_102 : decode b_Mo_spreadOf 102 = .ok (.iload_n 3, 1) := by decide +kernel
theorem d_Mo_spreadOf_103 : decode b_Mo_spreadOf 103 = .ok (.if_icmp .le 8, 3) := by decide +kernel
theorem d_Mo_spreadOf_106 : decode b_Mo_spreadOf 106 = .ok (.iload 6, 2) := by decide +kernel
theorem d_Mo_spreadOf_108 : decode b_Mo_spreadOf 108 = .ok (.goto 4, 3) := by decide +kernel
theorem d_Mo_spreadOf_111 : decode b_Mo_spreadOf 111 = .ok (.iload_n 3, 1) := by decide +kernel
theorem d_Mo_spreadOf_112 : decode b_Mo_spreadOf 112 = .ok (.istore_n 3, 1) := by decide +kernel
theorem d_Mo_spreadOf_113 : decode b_Mo_spreadOf 113 = .ok (.iinc 5 1, 3) := by decide +kernel
theorem d_Mo_spreadOf_116 : decode b_Mo_spreadOf 116 = .ok (.goto (-108), 3) := by decide +kernel
theorem d_Mo_spreadOf_119 : decode b_Mo_spreadOf 119 = .ok (.iload_n 3, 1) := by decide +kernel
theorem d_Mo_spreadOf_120 : decode b_Mo_spreadOf 120 = .ok (.iload 4, 2) := by decide +kernel
theorem d_Mo_spreadOf_122 : decode b_Mo_spreadOf 122 = .ok (.isub, 1) := by decide +kernel
theorem d_Mo_spreadOf_123 : decode b_Mo_spreadOf 123 = .ok (.ireturn, 1) := by decide +kernel
theorem d_Mo_plan_0 : decode b_Mo_plan 0 = .ok (.iload_n 1, 1) := by decide +kernel
theorem d_Mo_plan_1 : decode b_Mo_plan 1 = .ok (.i2l, 1) := by decide +kernel
theorem d_Mo_plan_2 : decode b_Mo_plan 2 = .ok (.lconst 1, 1) := by decide +kernel
theorem d_Mo_plan_3 : decode b_Mo_plan 3 = .ok (.ldc2_w 175, 3) := by decide +kernel
theorem d_Mo_plan_6 : decode b_Mo_plan 6 = .ok (.invokestatic 85, 3) := by decide +kernel
theorem d_Mo_plan_9 : decode b_Mo_plan 9 = .ok (.ifCond .ne 5, 3) := by decide +kernel
theorem d_Mo_plan_12 : decode b_Mo_plan 12 = .ok (.iconst (-1), 1) := by decide +kernel
theorem d_Mo_plan_13 : decode b_Mo_plan 13 = .ok (.ireturn, 1) := by decide +kernel
theorem d_Mo_plan_14 : decode b_Mo_plan 14 = .ok (.iconst 1, 1) := by decide +kernel
theorem d_Mo_plan_15 : decode b_Mo_plan 15 = .ok (.istore_n 2, 1) := by decide +kernel
theorem d_Mo_plan_16 : decode b_Mo_plan 16 = .ok (.iconst 0, 1) := by decide +kernel
theorem d_Mo_plan_17 : decode b_Mo_plan 17 = .ok (.istore_n 3, 1) := by decide +kernel
theorem d_Mo_plan_18 : decode b_Mo_plan 18 = .ok (.iload_n 3, 1) := by decide +kernel
theorem d_Mo_plan_19 : decode b_Mo_plan 19 = .ok (.iload_n 1, 1) := by decide +kernel
theorem d_Mo_plan_20 : decode b_Mo_plan 20 = .ok (.if_icmp .ge 14, 3) := by decide +kernel
theorem d_Mo_plan_23 : decode b_Mo_plan 23 = .ok (.bipush 6, 2) := by decide +kernel
theorem d_Mo_plan_25 : decode b_Mo_plan 25 = .ok (.iload_n 2, 1) := by decide +kernel
theorem d_Mo_plan_26 : decode b_Mo_plan 26 = .ok (.imul, 1) := by decide +kernel
theorem d_Mo_plan_27 : decode b_Mo_plan 27 = .ok (.istore_n 2, 1) := by decide +kernel
theorem d_Mo_plan_28 : decode b_Mo_plan 28 = .ok (.iinc 3 1, 3) := by decide +kernel
theorem d_Mo_plan_31 : decode b_Mo_plan 31 = .ok (.goto (-13), 3) := by decide +kernel
theorem d_Mo_plan_34 : decode b_Mo_plan 34 = .ok (.iconst (-1), 1) := by decide +kernel
theorem d_Mo_plan_35 : decode b_Mo_plan 35 = .ok (.istore_n 3, 1) := by decide +kernel
theorem d_Mo_plan_36 : decode b_Mo_plan 36 = .ok (.iconst 0, 1) := by decide +kernel
theorem d_Mo_plan_37 : decode b_Mo_plan 37 = .ok (.istore 4, 2) := by decide +kernel
theorem d_Mo_plan_39 : decode b_Mo_plan 39 = .ok (.iconst 0, 1) := by decide +kernel
theorem d_Mo_plan_40 : decode b_Mo_plan 40 = .ok (.istore 5, 2) := by decide +kernel
theorem d_Mo_plan_42 : decode b_Mo_plan 42 = .ok (.iload 5, 2) := by decide +kernel
theorem d_Mo_plan_44 : decode b_Mo_plan 44 = .ok (.iload_n 2, 1) := by decide +kernel
theorem d_Mo_plan_45 : decode b_Mo_plan 45 = .ok (.if_icmp .ge 41, 3) := by decide +kernel
theorem d_Mo_plan_48 : decode b_Mo_plan 48 = .ok (.aload_n 0, 1) := by decide +kernel
theorem d_Mo_plan_49 : decode b_Mo_plan 49 = .ok (.iload 5, 2) := by decide +kernel
theorem d_Mo_plan_51 : decode b_Mo_plan 51 = .ok (.iload_n 1, 1) := by decide +kernel
theorem d_Mo_plan_52 : decode b_Mo_plan 52 = .ok (.invokevirtual 177, 3) := by decide +kernel
theorem d_Mo_plan_55 : decode b_Mo_plan 55 = .ok (.istore 6, 2) := by decide +kernel
theorem d_Mo_plan_57 : decode b_Mo_plan 57 = .ok (.iload 6, 2) := by decide +kernel
theorem d_Mo_plan_59 : decode b_Mo_plan 59 = .ok (.ifCond .lt 21, 3) := by decide +kernel
theorem d_Mo_plan_62 : decode b_Mo_plan 62 = .ok (.iload_n 3, 1) := by decide +kernel
theorem d_Mo_plan_63 : decode b_Mo_plan 63 = .ok (.ifCond .lt 10, 3) := by decide +kernel
theorem d_Mo_plan_66 : decode b_Mo_plan 66 = .ok (.iload 6, 2) := by decide +kernel
theorem d_Mo_plan_68 : decode b_Mo_plan 68 = .ok (.iload 4, 2) := by decide +kernel
theorem d_Mo_plan_70 : decode b_Mo_plan 70 = .ok (.if_icmp .ge 10, 3) := by decide +kernel
theorem d_Mo_plan_73 : decode b_Mo_plan 73 = .ok (.iload 5, 2) := by decide +kernel
theorem d_Mo_plan_75 : decode b_Mo_plan 75 = .ok (.istore_n 3, 1) := by decide +kernel
theorem d_Mo_plan_76 : decode b_Mo_plan 76 = .ok (.iload 6, 2) := by decide +kernel
theorem d_Mo_plan_78 : decode b_Mo_plan 78 = .ok (.istore 4, 2) := by decide +kernel
theorem d_Mo_plan_80 : decode b_Mo_plan 80 = .ok (.iinc 5 1, 3) := by decide +kernel
theorem d_Mo_plan_83 : decode b_Mo_plan 83 = .ok (.goto (-41), 3) := by decide +kernel
theorem d_Mo_plan_86 : decode b_Mo_plan 86 = .ok (.iload_n 3, 1) := by decide +kernel
theorem d_Mo_plan_87 : decode b_Mo_plan 87 = .ok (.ifCond .ge 5, 3) := by decide +kernel
theorem d_Mo_plan_90 : decode b_Mo_plan 90 = .ok (.iconst (-1), 1) := by decide +kernel
theorem d_Mo_plan_91 : decode b_Mo_plan 91 = .ok (.ireturn, 1) := by decide +kernel
theorem d_Mo_plan_92 : decode b_Mo_plan 92 = .ok (.aload_n 0, 1) := by decide +kernel
theorem d_Mo_plan_93 : decode b_Mo_plan 93 = .ok (.iload_n 1, 1) := by decide +kernel
theorem d_Mo_plan_94 : decode b_Mo_plan 94 = .ok (.putfield 181, 3) := by decide +kernel
theorem d_Mo_plan_97 : decode b_Mo_plan 97 = .ok (.iconst 0, 1) := by decide +kernel
theorem d_Mo_plan_98 : decode b_Mo_plan 98 = .ok (.istore 5, 2) := by decide +kernel
theorem d_Mo_plan_100 : decode b_Mo_plan 100 = .ok (.iload 5, 2) := by decide +kernel
theorem d_Mo_plan_102 : decode b_Mo_plan 102 = .ok (.iload_n 1, 1) := by decide +kernel
theorem d_Mo_plan_103 : decode b_Mo_plan 103 = .ok (.if_icmp .ge 23, 3) := by decide +kernel
theorem d_Mo_plan_106 : decode b_Mo_plan 106 = .ok (.aload_n 0, 1) := by decide +kernel
theorem d_Mo_plan_107 : decode b_Mo_plan 107 = .ok (.getfield 73, 3) := by decide +kernel
theorem d_Mo_plan_110 : decode b_Mo_plan 110 = .ok (.iload 5, 2) := by decide +kernel
theorem d_Mo_plan_112 : decode b_Mo_plan 112 = .ok (.iload_n 3, 1) := by decide +kernel
theorem d_Mo_plan_113 : decode b_Mo_plan 113 = .ok (.iload 5, 2) := by decide +kernel
theorem d_Mo_plan_115 : decode b_Mo_plan 115 = .ok (.iload_n 1, 1) := by decide +kernel
theorem d_Mo_plan_116 : decode b_Mo_plan 116 = .ok (.invokestatic 171, 3) := by decide +kernel
theorem d_Mo_plan_119 : decode b_Mo_plan 119 = .ok (.iastore, 1) := by decide +kernel
theorem d_Mo_plan_120 : decode b_Mo_plan 120 = .ok (.iinc 5 1, 3) := by decide +kernel
theorem d_Mo_plan_123 : decode b_Mo_plan 123 = .ok (.goto (-23), 3) := by decide +kernel
theorem d_Mo_plan_126 : decode b_Mo_plan 126 = .ok (.iload 4, 2) := by decide +kernel
theorem d_Mo_plan_128 : decode b_Mo_plan 128 = .ok (.ireturn, 1) := by decide +kernel
theorem d_Mo_planned_0 : decode b_Mo_planned 0 = .ok (.iload_n 1, 1) := by decide +kernel
theorem d_Mo_planned_1 : decode b_Mo_planned 1 = .ok (.ifCond .lt 20, 3) := by decide +kernel
theorem d_Mo_planned_4 : decode b_Mo_planned 4 = .ok (.iload_n 1, 1) := by decide +kernel
theorem d_Mo_planned_5 : decode b_Mo_planned 5 = .ok (.aload_n 0, 1) := by decide +kernel
theorem d_Mo_planned_6 : decode b_Mo_planned 6 = .ok (.getfield 181, 3) := by decide +kernel
theorem d_Mo_planned_9 : decode b_Mo_planned 9 = .ok (.if_icmp .ge 12, 3) := by decide +kernel
theorem d_Mo_planned_12 : decode b_Mo_planned 12 = .ok (.aload_n 0, 1) := by decide +kernel
theorem d_Mo_planned_13 : decode b_Mo_planned 13 = .ok (.getfield 73, 3) := by decide +kernel
theorem d_Mo_planned_16 : decode b_Mo_planned 16 = .ok (.iload_n 1, 1) := by decide +kernel
theorem d_Mo_planned_17 : decode b_Mo_planned 17 = .ok (.iaload, 1) := by decide +kernel
theorem d_Mo_planned_18 : decode b_Mo_planned 18 = .ok (.goto 4, 3) := by decide +kernel
theorem d_Mo_planned_21 : decode b_Mo_planned 21 = .ok (.iconst (-1), 1) := by decide +kernel
theorem d_Mo_planned_22 : decode b_Mo_planned 22 = .ok (.ireturn, 1) := by decide +kernel
