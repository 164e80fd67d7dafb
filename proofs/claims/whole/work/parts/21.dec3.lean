theorem d_MaskEdgesModel_init_0 : decode prog_8_method_1_code 0 = .ok (.aload_n 0, 1) := by decide +kernel
theorem d_MaskEdgesModel_init_1 : decode prog_8_method_1_code 1 = .ok (.invokespecial 1, 3) := by decide +kernel
theorem d_MaskEdgesModel_init_4 : decode prog_8_method_1_code 4 = .ok (.aload_n 0, 1) := by decide +kernel
theorem d_MaskEdgesModel_init_5 : decode prog_8_method_1_code 5 = .ok (.bipush 64, 2) := by decide +kernel
theorem d_MaskEdgesModel_init_7 : decode prog_8_method_1_code 7 = .ok (.newarray .int, 2) := by decide +kernel
theorem d_MaskEdgesModel_init_9 : decode prog_8_method_1_code 9 = .ok (.putfield 7, 3) := by decide +kernel
theorem d_MaskEdgesModel_init_12 : decode prog_8_method_1_code 12 = .ok (.aload_n 0, 1) := by decide +kernel
theorem d_MaskEdgesModel_init_13 : decode prog_8_method_1_code 13 = .ok (.bipush 64, 2) := by decide +kernel
theorem d_MaskEdgesModel_init_15 : decode prog_8_method_1_code 15 = .ok (.newarray .int, 2) := by decide +kernel
theorem d_MaskEdgesModel_init_17 : decode prog_8_method_1_code 17 = .ok (.putfield 13, 3) := by decide +kernel
theorem d_MaskEdgesModel_init_20 : decode prog_8_method_1_code 20 = .ok (.aload_n 0, 1) := by decide +kernel
theorem d_MaskEdgesModel_init_21 : decode prog_8_method_1_code 21 = .ok (.iconst 4, 1) := by decide +kernel
theorem d_MaskEdgesModel_init_22 : decode prog_8_method_1_code 22 = .ok (.newarray .int, 2) := by decide +kernel
theorem d_MaskEdgesModel_init_24 : decode prog_8_method_1_code 24 = .ok (.putfield 16, 3) := by decide +kernel
theorem d_MaskEdgesModel_init_27 : decode prog_8_method_1_code 27 = .ok (.aload_n 0, 1) := by decide +kernel
theorem d_MaskEdgesModel_init_28 : decode prog_8_method_1_code 28 = .ok (.iconst 4, 1) := by decide +kernel
theorem d_MaskEdgesModel_init_29 : decode prog_8_method_1_code 29 = .ok (.newarray .boolean, 2) := by decide +kernel
theorem d_MaskEdgesModel_init_31 : decode prog_8_method_1_code 31 = .ok (.putfield 19, 3) := by decide +kernel
theorem d_MaskEdgesModel_init_34 : decode prog_8_method_1_code 34 = .ok (.aload_n 0, 1) := by decide +kernel
theorem d_MaskEdgesModel_init_35 : decode prog_8_method_1_code 35 = .ok (.bipush 6, 2) := by decide +kernel
theorem d_MaskEdgesModel_init_37 : decode prog_8_method_1_code 37 = .ok (.newarray .int, 2) := by decide +kernel
theorem d_MaskEdgesModel_init_39 : decode prog_8_method_1_code 39 = .ok (.putfield 23, 3) := by decide +kernel
theorem d_MaskEdgesModel_init_42 : decode prog_8_method_1_code 42 = .ok (.aload_n 0, 1) := by decide +kernel
theorem d_MaskEdgesModel_init_43 : decode prog_8_method_1_code 43 = .ok (.bipush 6, 2) := by decide +kernel
theorem d_MaskEdgesModel_init_45 : decode prog_8_method_1_code 45 = .ok (.newarray .int, 2) := by decide +kernel
theorem d_MaskEdgesModel_init_47 : decode prog_8_method_1_code 47 = .ok (.putfield 26, 3) := by decide +kernel
theorem d_MaskEdgesModel_init_50 : decode prog_8_method_1_code 50 = .ok (.aload_n 0, 1) := by decide +kernel
theorem d_MaskEdgesModel_init_51 : decode prog_8_method_1_code 51 = .ok (.iconst 1, 1) := by decide +kernel
theorem d_MaskEdgesModel_init_52 : decode prog_8_method_1_code 52 = .ok (.putfield 29, 3) := by decide +kernel
theorem d_MaskEdgesModel_init_55 : decode prog_8_method_1_code 55 = .ok (.aload_n 0, 1) := by decide +kernel
theorem d_MaskEdgesModel_init_56 : decode prog_8_method_1_code 56 = .ok (.bipush 120, 2) := by decide +kernel
theorem d_MaskEdgesModel_init_58 : decode prog_8_method_1_code 58 = .ok (.newarray .int, 2) := by decide +kernel
theorem d_MaskEdgesModel_init_60 : decode prog_8_method_1_code 60 = .ok (.putfield 33, 3) := by decide +kernel
theorem d_MaskEdgesModel_init_63 : decode prog_8_method_1_code 63 = .ok (.aload_n 0, 1) := by decide +kernel
theorem d_MaskEdgesModel_init_64 : decode prog_8_method_1_code 64 = .ok (.bipush 120, 2) := by decide +kernel
theorem d_MaskEdgesModel_init_66 : decode prog_8_method_1_code 66 = .ok (.newarray .int, 2) := by decide +kernel
theorem d_MaskEdgesModel_init_68 : decode prog_8_method_1_code 68 = .ok (.putfield 36, 3) := by decide +kernel
theorem d_MaskEdgesModel_init_71 : decode prog_8_method_1_code 71 = .ok (.aload_n 0, 1) := by decide +kernel
theorem d_MaskEdgesModel_init_72 : decode prog_8_method_1_code 72 = .ok (.bipush 120, 2) := by decide +kernel
theorem d_MaskEdgesModel_init_74 : decode prog_8_method_1_code 74 = .ok (.newarray .int, 2) := by decide +kernel
theorem d_MaskEdgesModel_init_76 : decode prog_8_method_1_code 76 = .ok (.putfield 39, 3) := by decide +kernel
theorem d_MaskEdgesModel_init_79 : decode prog_8_method_1_code 79 = .ok (.aload_n 0, 1) := by decide +kernel
theorem d_MaskEdgesModel_init_80 : decode prog_8_method_1_code 80 = .ok (.bipush 120, 2) := by decide +kernel
theorem d_MaskEdgesModel_init_82 : decode prog_8_method_1_code 82 = .ok (.newarray .boolean, 2) := by decide +kernel
theorem d_MaskEdgesModel_init_84 : decode prog_8_method_1_code 84 = .ok (.putfield 42, 3) := by decide +kernel
theorem d_MaskEdgesModel_init_87 : decode prog_8_method_1_code 87 = .ok (.aload_n 0, 1) := by decide +kernel
theorem d_MaskEdgesModel_init_88 : decode prog_8_method_1_code 88 = .ok (.bipush 120, 2) := by decide +kernel
theorem d_MaskEdgesModel_init_90 : decode prog_8_method_1_code 90 = .ok (.newarray .boolean, 2) := by decide +kernel
theorem d_MaskEdgesModel_init_92 : decode prog_8_method_1_code 92 = .ok (.putfield 45, 3) := by decide +kernel
theorem d_MaskEdgesModel_init_95 : decode prog_8_method_1_code 95 = .ok (.aload_n 0, 1) := by decide +kernel
theorem d_MaskEdgesModel_init_96 : decode prog_8_method_1_code 96 = .ok (.bipush 120, 2) := by decide +kernel
theorem d_MaskEdgesModel_init_98 : decode prog_8_method_1_code 98 = .ok (.newarray .boolean, 2) := by decide +kernel
theorem d_MaskEdgesModel_init_100 : decode prog_8_method_1_code 100 = .ok (.putfield 48, 3) := by decide +kernel
theorem d_MaskEdgesModel_init_103 : decode prog_8_method_1_code 103 = .ok (.aload_n 0, 1) := by decide +kernel
theorem d_MaskEdgesModel_init_104 : decode prog_8_method_1_code 104 = .ok (.bipush 120, 2) := by decide +kernel
theorem d_MaskEdgesModel_init_106 : decode prog_8_method_1_code 106 = .ok (.newarray .int, 2) := by decide +kernel
theorem d_MaskEdgesModel_init_108 : decode prog_8_method_1_code 108 = .ok (.putfield 51, 3) := by decide +kernel
theorem d_MaskEdgesModel_init_111 : decode prog_8_method_1_code 111 = .ok (.aload_n 0, 1) := by decide +kernel
theorem d_MaskEdgesModel_init_112 : decode prog_8_method_1_code 112 = .ok (.bipush 120, 2) := by decide +kernel
theorem d_MaskEdgesModel_init_114 : decode prog_8_method_1_code 114 = .ok (.newarray .int, 2) := by decide +kernel
theorem d_MaskEdgesModel_init_116 : decode prog_8_method_1_code 116 = .ok (.putfield 54, 3) := by decide +kernel
theorem d_MaskEdgesModel_init_119 : decode prog_8_method_1_code 119 = .ok (.aload_n 0, 1) := by decide +kernel
theorem d_MaskEdgesModel_init_120 : decode prog_8_method_1_code 120 = .ok (.bipush 120, 2) := by decide +kernel
theorem d_MaskEdgesModel_init_122 : decode prog_8_method_1_code 122 = .ok (.newarray .int, 2) := by decide +kernel
theorem d_MaskEdgesModel_init_124 : decode prog_8_method_1_code 124 = .ok (.putfield 57, 3) := by decide +kernel
theorem d_MaskEdgesModel_init_127 : decode prog_8_method_1_code 127 = .ok (.aload_n 0, 1) := by decide +kernel
theorem d_MaskEdgesModel_init_128 : decode prog_8_method_1_code 128 = .ok (.bipush 24, 2) := by decide +kernel
theorem d_MaskEdgesModel_init_130 : decode prog_8_method_1_code 130 = .ok (.newarray .int, 2) := by decide +kernel
theorem d_MaskEdgesModel_init_132 : decode prog_8_method_1_code 132 = .ok (.putfield 60, 3) := by decide +kernel
theorem d_MaskEdgesModel_init_135 : decode prog_8_method_1_code 135 = .ok (.aload_n 0, 1) := by decide +kernel
theorem d_MaskEdgesModel_init_136 : decode prog_8_method_1_code 136 = .ok (.bipush 24, 2) := by decide +kernel
theorem d_MaskEdgesModel_init_138 : decode prog_8_method_1_code 138 = .ok (.newarray .int, 2) := by decide +kernel
theorem d_MaskEdgesModel_init_140 : decode prog_8_method_1_code 140 = .ok (.putfield 63, 3) := by decide +kernel
theorem d_MaskEdgesModel_init_143 : decode prog_8_method_1_code 143 = .ok (.aload_n 0, 1) := by decide +kernel
theorem d_MaskEdgesModel_init_144 : decode prog_8_method_1_code 144 = .ok (.bipush 24, 2) := by decide +kernel
theorem d_MaskEdgesModel_init_146 : decode prog_8_method_1_code 146 = .ok (.newarray .int, 2) := by decide +kernel
theorem d_MaskEdgesModel_init_148 : decode prog_8_method_1_code 148 = .ok (.putfield 66, 3) := by decide +kernel
theorem d_MaskEdgesModel_init_151 : decode prog_8_method_1_code 151 = .ok (.aload_n 0, 1) := by decide +kernel
theorem d_MaskEdgesModel_init_152 : decode prog_8_method_1_code 152 = .ok (.bipush 24, 2) := by decide +kernel
theorem d_MaskEdgesModel_init_154 : decode prog_8_method_1_code 154 = .ok (.newarray .int, 2) := by decide +kernel
theorem d_MaskEdgesModel_init_156 : decode prog_8_method_1_code 156 = .ok (.putfield 69, 3) := by decide +kernel
theorem d_MaskEdgesModel_init_159 : decode prog_8_method_1_code 159 = .ok (.aload_n 0, 1) := by decide +kernel
theorem d_MaskEdgesModel_init_160 : decode prog_8_method_1_code 160 = .ok (.sipush 2304, 3) := by decide +kernel
theorem d_MaskEdgesModel_init_163 : decode prog_8_method_1_code 163 = .ok (.newarray .boolean, 2) := by decide +kernel
theorem d_MaskEdgesModel_init_165 : decode prog_8_method_1_code 165 = .ok (.putfield 72, 3) := by decide +kernel
theorem d_MaskEdgesModel_init_168 : decode prog_8_method_1_code 168 = .ok (.aload_n 0, 1) := by decide +kernel
theorem d_MaskEdgesModel_init_169 : decode prog_8_method_1_code 169 = .ok (.sipush 2401, 3) := by decide +kernel
theorem d_MaskEdgesModel_init_172 : decode prog_8_method_1_code 172 = .ok (.newarray .int, 2) := by decide +kernel
theorem d_MaskEdgesModel_init_174 : decode prog_8_method_1_code 174 = .ok (.putfield 75, 3) := by decide +kernel
theorem d_MaskEdgesModel_init_177 : decode prog_8_method_1_code 177 = .ok (.aload_n 0, 1) := by decide +kernel
theorem d_MaskEdgesModel_init_178 : decode prog_8_method_1_code 178 = .ok (.iconst (-1), 1) := by decide +kernel
theorem d_MaskEdgesModel_init_179 : decode prog_8_method_1_code 179 = .ok (.putfield 78, 3) := by decide +kernel
theorem d_MaskEdgesModel_init_182 : decode prog_8_method_1_code 182 = .ok (.aload_n 0, 1) := by decide +kernel
theorem d_MaskEdgesModel_init_183 : decode prog_8_method_1_code 183 = .ok (.bipush 21, 2) := by decide +kernel
theorem d_MaskEdgesModel_init_185 : decode prog_8_method_1_code 185 = .ok (.newarray .int, 2) := by decide +kernel
theorem d_MaskEdgesModel_init_187 : decode prog_8_method_1_code 187 = .ok (.putfield 81, 3) := by decide +kernel
theorem d_MaskEdgesModel_init_190 : decode prog_8_method_1_code 190 = .ok (.return_, 1) := by decide +kernel
theorem d_MaskEdgesModel_isBetween_0 : decode prog_8_method_2_code 0 = .ok (.lload_n 0, 1) := by decide +kernel
theorem d_MaskEdgesModel_isBetween_1 : decode prog_8_method_2_code 1 = .ok (.lload_n 2, 1) := by decide +kernel
theorem d_MaskEdgesModel_isBetween_2 : decode prog_8_method_2_code 2 = .ok (.lcmp, 1) := by decide +kernel
theorem d_MaskEdgesModel_isBetween_3 : decode prog_8_method_2_code 3 = .ok (.ifCond .lt 14, 3) := by decide +kernel
theorem d_MaskEdgesModel_isBetween_6 : decode prog_8_method_2_code 6 = .ok (.lload_n 0, 1) := by decide +kernel
theorem d_MaskEdgesModel_isBetween_7 : decode prog_8_method_2_code 7 = .ok (.lload 4, 2) := by decide +kernel
theorem d_MaskEdgesModel_isBetween_9 : decode prog_8_method_2_code 9 = .ok (.lcmp, 1) := by decide +kernel
theorem d_MaskEdgesModel_isBetween_10 : decode prog_8_method_2_code 10 = .ok (.ifCond .gt 7, 3) := by decide +kernel
theorem d_MaskEdgesModel_isBetween_13 : decode prog_8_method_2_code 13 = .ok (.iconst 1, 1) := by decide +kernel
theorem d_MaskEdgesModel_isBetween_14 : decode prog_8_method_2_code 14 = .ok (.goto 4, 3) := by decide +kernel
theorem d_MaskEdgesModel_isBetween_17 : decode prog_8_method_2_code 17 = .ok (.iconst 0, 1) := by decide +kernel
theorem d_MaskEdgesModel_isBetween_18 : decode prog_8_method_2_code 18 = .ok (.ireturn, 1) := by decide +kernel
theorem d_MaskEdgesModel_isCell_0 : decode prog_8_method_3_code 0 = .ok (.iload_n 0, 1) := by decide +kernel
theorem d_MaskEdgesModel_isCell_1 : decode prog_8_method_3_code 1 = .ok (.i2l, 1) := by decide +kernel
theorem d_MaskEdgesModel_isCell_2 : decode prog_8_method_3_code 2 = .ok (.lconst 0, 1) := by decide +kernel
theorem d_MaskEdgesModel_isCell_3 : decode prog_8_method_3_code 3 = .ok (.ldc2_w 84, 3) := by decide +kernel
theorem d_MaskEdgesModel_isCell_6 : decode prog_8_method_3_code 6 = .ok (.invokestatic 86, 3) := by decide +kernel
theorem d_MaskEdgesModel_isCell_9 : decode prog_8_method_3_code 9 = .ok (.ifCond .eq 19, 3) := by decide +kernel
theorem d_MaskEdgesModel_isCell_12 : decode prog_8_method_3_code 12 = .ok (.iload_n 1, 1) := by decide +kernel
theorem d_MaskEdgesModel_isCell_13 : decode prog_8_method_3_code 13 = .ok (.i2l, 1) := by decide +kernel
theorem d_MaskEdgesModel_isCell_14 : decode prog_8_method_3_code 14 = .ok (.lconst 0, 1) := by decide +kernel
theorem d_MaskEdgesModel_isCell_15 : decode prog_8_method_3_code 15 = .ok (.ldc2_w 84, 3) := by decide +kernel
theorem d_MaskEdgesModel_isCell_18 : decode prog_8_method_3_code 18 = .ok (.invokestatic 86, 3) := by decide +kernel
theorem d_MaskEdgesModel_isCell_21 : decode prog_8_method_3_code 21 = .ok (.ifCond .eq 7, 3) := by decide +kernel
theorem d_MaskEdgesModel_isCell_24 : decode prog_8_method_3_code 24 = .ok (.iconst 1, 1) := by decide +kernel
theorem d_MaskEdgesModel_isCell_25 : decode prog_8_method_3_code 25 = .ok (.goto 4, 3) := by decide +kernel
theorem d_MaskEdgesModel_isCell_28 : decode prog_8_method_3_code 28 = .ok (.iconst 0, 1) := by decide +kernel
theorem d_MaskEdgesModel_isCell_29 : decode prog_8_method_3_code 29 = .ok (.ireturn, 1) := by decide +kernel
theorem d_MaskEdgesModel_polygon_0 : decode prog_8_method_4_code 0 = .ok (.aload_n 0, 1) := by decide +kernel
theorem d_MaskEdgesModel_polygon_1 : decode prog_8_method_4_code 1 = .ok (.getfield 90, 3) := by decide +kernel
theorem d_MaskEdgesModel_polygon_4 : decode prog_8_method_4_code 4 = .ok (.ifCond .le 6, 3) := by decide +kernel
theorem d_MaskEdgesModel_polygon_7 : decode prog_8_method_4_code 7 = .ok (.bipush (-3), 2) := by decide +kernel
theorem d_MaskEdgesModel_polygon_9 : decode prog_8_method_4_code 9 = .ok (.ireturn, 1) := by decide +kernel
theorem d_MaskEdgesModel_polygon_10 : decode prog_8_method_4_code 10 = .ok (.aload_n 0, 1) := by decide +kernel
theorem d_MaskEdgesModel_polygon_11 : decode prog_8_method_4_code 11 = .ok (.getfield 93, 3) := by decide +kernel
theorem d_MaskEdgesModel_polygon_14 : decode prog_8_method_4_code 14 = .ok (.iconst 4, 1) := by decide +kernel
theorem d_MaskEdgesModel_polygon_15 : decode prog_8_method_4_code 15 = .ok (.if_icmp .ne 6, 3) := by decide +kernel
theorem d_MaskEdgesModel_polygon_18 : decode prog_8_method_4_code 18 = .ok (.bipush (-4), 2) := by decide +kernel
theorem d_MaskEdgesModel_polygon_20 : decode prog_8_method_4_code 20 = .ok (.ireturn, 1) := by decide +kernel
theorem d_MaskEdgesModel_polygon_21 : decode prog_8_method_4_code 21 = .ok (.aload_n 0, 1) := by decide +kernel
theorem d_MaskEdgesModel_polygon_22 : decode prog_8_method_4_code 22 = .ok (.dup, 1) := by decide +kernel
theorem d_MaskEdgesModel_polygon_23 : decode prog_8_method_4_code 23 = .ok (.getfield 93, 3) := by decide +kernel
theorem d_MaskEdgesModel_polygon_26 : decode prog_8_method_4_code 26 = .ok (.iconst 1, 1) := by decide +kernel
theorem d_MaskEdgesModel_polygon_27 : decode prog_8_method_4_code 27 = .ok (.iadd, 1) := by decide +kernel
theorem d_MaskEdgesModel_polygon_28 : decode prog_8_method_4_code 28 = .ok (.putfield 93, 3) := by decide +kernel
theorem d_MaskEdgesModel_polygon_31 : decode prog_8_method_4_code 31 = .ok (.aload_n 0, 1) := by decide +kernel
theorem d_MaskEdgesModel_polygon_32 : decode prog_8_method_4_code 32 = .ok (.getfield 93, 3) := by decide +kernel
theorem d_MaskEdgesModel_polygon_35 : decode prog_8_method_4_code 35 = .ok (.iconst 1, 1) := by decide +kernel
theorem d_MaskEdgesModel_polygon_36 : decode prog_8_method_4_code 36 = .ok (.isub, 1) := by decide +kernel
theorem d_MaskEdgesModel_polygon_37 : decode prog_8_method_4_code 37 = .ok (.ireturn, 1) := by decide +kernel
theorem d_MaskEdgesModel_goesAlongX_0 : decode prog_8_method_5_code 0 = .ok (.aload_n 0, 1) := by decide +kernel
theorem d_MaskEdgesModel_goesAlongX_1 : decode prog_8_method_5_code 1 = .ok (.getfield 16, 3) := by decide +kernel
theorem d_MaskEdgesModel_goesAlongX_4 : decode prog_8_method_5_code 4 = .ok (.iload_n 1, 1) := by decide +kernel
theorem d_MaskEdgesModel_goesAlongX_5 : decode prog_8_method_5_code 5 = .ok (.iaload, 1) := by decide +kernel
theorem d_MaskEdgesModel_goesAlongX_6 : decode prog_8_method_5_code 6 = .ok (.istore_n 3, 1) := by decide +kernel
theorem d_MaskEdgesModel_goesAlongX_7 : decode prog_8_method_5_code 7 = .ok (.bipush 16, 2) := by decide +kernel
theorem d_MaskEdgesModel_goesAlongX_9 : decode prog_8_method_5_code 9 = .ok (.iload_n 1, 1) := by decide +kernel
theorem d_MaskEdgesModel_goesAlongX_10 : decode prog_8_method_5_code 10 = .ok (.imul, 1) := by decide +kernel
theorem d_MaskEdgesModel_goesAlongX_11 : decode prog_8_method_5_code 11 = .ok (.iload_n 2, 1) := by decide +kernel
theorem d_MaskEdgesModel_goesAlongX_12 : decode prog_8_method_5_code 12 = .ok (.iload_n 3, 1) := by decide +kernel
theorem d_MaskEdgesModel_goesAlongX_13 : decode prog_8_method_5_code 13 = .ok (.iadd, 1) := by decide +kernel
theorem d_MaskEdgesModel_goesAlongX_14 : decode prog_8_method_5_code 14 = .ok (.iconst 1, 1) := by decide +kernel
theorem d_MaskEdgesModel_goesAlongX_15 : decode prog_8_method_5_code 15 = .ok (.isub, 1) := by decide +kernel
theorem d_MaskEdgesModel_goesAlongX_16 : decode prog_8_method_5_code 16 = .ok (.iload_n 3, 1) := by decide +kernel
theorem d_MaskEdgesModel_goesAlongX_17 : decode prog_8_method_5_code 17 = .ok (.irem, 1) := by decide +kernel
theorem d_MaskEdgesModel_goesAlongX_18 : decode prog_8_method_5_code 18 = .ok (.iadd, 1) := by decide +kernel
theorem d_MaskEdgesModel_goesAlongX_19 : decode prog_8_method_5_code 19 = .ok (.istore 4, 2) := by decide +kernel
theorem d_MaskEdgesModel_goesAlongX_21 : decode prog_8_method_5_code 21 = .ok (.aload_n 0, 1) := by decide +kernel
theorem d_MaskEdgesModel_goesAlongX_22 : decode prog_8_method_5_code 22 = .ok (.getfield 13, 3) := by decide +kernel
theorem d_MaskEdgesModel_goesAlongX_25 : decode prog_8_method_5_code 25 = .ok (.bipush 16, 2) := by decide +kernel
theorem d_MaskEdgesModel_goesAlongX_27 : decode prog_8_method_5_code 27 = .ok (.iload_n 1, 1) := by decide +kernel
theorem d_MaskEdgesModel_goesAlongX_28 : decode prog_8_method_5_code 28 = .ok (.imul, 1) := by decide +kernel
theorem d_MaskEdgesModel_goesAlongX_29 : decode prog_8_method_5_code 29 = .ok (.iload_n 2, 1) := by decide +kernel
theorem d_MaskEdgesModel_goesAlongX_30 : decode prog_8_method_5_code 30 = .ok (.iadd, 1) := by decide +kernel
theorem d_MaskEdgesModel_goesAlongX_31 : decode prog_8_method_5_code 31 = .ok (.iaload, 1) := by decide +kernel
theorem d_MaskEdgesModel_goesAlongX_32 : decode prog_8_method_5_code 32 = .ok (.aload_n 0, 1) := by decide +kernel
theorem d_MaskEdgesModel_goesAlongX_33 : decode prog_8_method_5_code 33 = .ok (.getfield 13, 3) := by decide +kernel
theorem d_MaskEdgesModel_goesAlongX_36 : decode prog_8_method_5_code 36 = .ok (.iload 4, 2) := by decide +kernel
theorem d_MaskEdgesModel_goesAlongX_38 : decode prog_8_method_5_code 38 = .ok (.iaload, 1) := by decide +kernel
theorem d_MaskEdgesModel_goesAlongX_39 : decode prog_8_method_5_code 39 = .ok (.if_icmp .ne 7, 3) := by decide +kernel
theorem d_MaskEdgesModel_goesAlongX_42 : decode prog_8_method_5_code 42 = .ok (.iconst 1, 1) := by decide +kernel
theorem d_MaskEdgesModel_goesAlongX_43 : decode prog_8_method_5_code 43 = .ok (.goto 4, 3) := by decide +kernel
theorem d_MaskEdgesModel_goesAlongX_46 : decode prog_8_method_5_code 46 = .ok (.iconst 0, 1) := by decide +kernel
theorem d_MaskEdgesModel_goesAlongX_47 : decode prog_8_method_5_code 47 = .ok (.ireturn, 1) := by decide +kernel
theorem d_MaskEdgesModel_corner_0 : decode prog_8_method_6_code 0 = .ok (.iload_n 1, 1) := by decide +kernel
theorem d_MaskEdgesModel_corner_1 : decode prog_8_method_6_code 1 = .ok (.i2l, 1) := by decide +kernel
theorem d_MaskEdgesModel_corner_2 : decode prog_8_method_6_code 2 = .ok (.lconst 0, 1) := by decide +kernel
theorem d_MaskEdgesModel_corner_3 : decode prog_8_method_6_code 3 = .ok (.aload_n 0, 1) := by decide +kernel
theorem d_MaskEdgesModel_corner_4 : decode prog_8_method_6_code 4 = .ok (.getfield 93, 3) := by decide +kernel
theorem d_MaskEdgesModel_corner_7 : decode prog_8_method_6_code 7 = .ok (.iconst 1, 1) := by decide +kernel
theorem d_MaskEdgesModel_corner_8 : decode prog_8_method_6_code 8 = .ok (.isub, 1) := by decide +kernel
theorem d_MaskEdgesModel_corner_9 : decode prog_8_method_6_code 9 = .ok (.i2l, 1) := by decide +kernel
theorem d_MaskEdgesModel_corner_10 : decode prog_8_method_6_code 10 = .ok (.invokestatic 86, 3) := by decide +kernel
theorem d_MaskEdgesModel_corner_13 : decode prog_8_method_6_code 13 = .ok (.ifCond .eq 42, 3) := by decide +kernel
theorem d_MaskEdgesModel_corner_16 : decode prog_8_method_6_code 16 = .ok (.aload_n 0, 1) := by decide +kernel
theorem d_MaskEdgesModel_corner_17 : decode prog_8_method_6_code 17 = .ok (.getfield 19, 3) := by decide +kernel
theorem d_MaskEdgesModel_corner_20 : decode prog_8_method_6_code 20 = .ok (.iload_n 1, 1) := by decide +kernel
theorem d_MaskEdgesModel_corner_21 : decode prog_8_method_6_code 21 = .ok (.baload, 1) := by decide +kernel
theorem d_MaskEdgesModel_corner_22 : decode prog_8_method_6_code 22 = .ok (.ifCond .ne 33, 3) := by decide +kernel
theorem d_MaskEdgesModel_corner_25 : decode prog_8_method_6_code 25 = .ok (.aload_n 0, 1) := by decide +kernel
theorem d_MaskEdgesModel_corner_26 : decode prog_8_method_6_code 26 = .ok (.getfield 90, 3) := by decide +kernel
theorem d_MaskEdgesModel_corner_29 : decode prog_8_method_6_code 29 = .ok (.ifCond .gt 26, 3) := by decide +kernel
theorem d_MaskEdgesModel_corner_32 : decode prog_8_method_6_code 32 = .ok (.lload_n 2, 1) := by decide +kernel
theorem d_MaskEdgesModel_corner_33 : decode prog_8_method_6_code 33 = .ok (.lconst 0, 1) := by decide +kernel
theorem d_MaskEdgesModel_corner_34 : decode prog_8_method_6_code 34 = .ok (.ldc2_w 96, 3) := by decide +kernel
theorem d_MaskEdgesModel_corner_37 : decode prog_8_method_6_code 37 = .ok (.invokestatic 86, 3) := by decide +kernel
theorem d_MaskEdgesModel_corner_40 : decode prog_8_method_6_code 40 = .ok (.ifCond .eq 15, 3) := by decide +kernel
theorem d_MaskEdgesModel_corner_43 : decode prog_8_method_6_code 43 = .ok (.lload 4, 2) := by decide +kernel
theorem d_MaskEdgesModel_corner_45 : decode prog_8_method_6_code 45 = .ok (.lconst 0, 1) := by decide +kernel
theorem d_MaskEdgesModel_corner_46 : decode prog_8_method_6_code 46 = .ok (.ldc2_w 96, 3) := by decide +kernel
theorem d_MaskEdgesModel_corner_49 : decode prog_8_method_6_code 49 = .ok (.invokestatic 86, 3) := by decide +kernel
theorem d_MaskEdgesModel_corner_52 : decode prog_8_method_6_code 52 = .ok (.ifCond .ne 5, 3) := by decide +kernel
theorem d_MaskEdgesModel_corner_55 : decode prog_8_method_6_code 55 = .ok (.iconst 0, 1) := by decide +kernel
theorem d_MaskEdgesModel_corner_56 : decode prog_8_method_6_code 56 = .ok (.ireturn, 1) := by decide +kernel
theorem d_MaskEdgesModel_corner_57 : decode prog_8_method_6_code 57 = .ok (.aload_n 0, 1) := by decide +kernel
theorem d_MaskEdgesModel_corner_58 : decode prog_8_method_6_code 58 = .ok (.getfield 16, 3) := by decide +kernel
theorem d_MaskEdgesModel_corner_61 : decode prog_8_method_6_code 61 = .ok (.iload_n 1, 1) := by decide +kernel
theorem d_MaskEdgesModel_corner_62 : decode prog_8_method_6_code 62 = .ok (.iaload, 1) := by decide +kernel
theorem d_MaskEdgesModel_corner_63 : decode prog_8_method_6_code 63 = .ok (.istore 6, 2) := by decide +kernel
theorem d_MaskEdgesModel_corner_65 : decode prog_8_method_6_code 65 = .ok (.bipush 16, 2) := by decide +kernel
theorem d_MaskEdgesModel_corner_67 : decode prog_8_method_6_code 67 = .ok (.iload_n 1, 1) := by decide +kernel
theorem d_MaskEdgesModel_corner_68 : decode prog_8_method_6_code 68 = .ok (.imul, 1) := by decide +kernel
theorem d_MaskEdgesModel_corner_69 : decode prog_8_method_6_code 69 = .ok (.istore 7, 2) := by decide +kernel
theorem d_MaskEdgesModel_corner_71 : decode prog_8_method_6_code 71 = .ok (.iload 6, 2) := by decide +kernel
theorem d_MaskEdgesModel_corner_73 : decode prog_8_method_6_code 73 = .ok (.ifCond .le 138, 3) := by decide +kernel
theorem d_MaskEdgesModel_corner_76 : decode prog_8_method_6_code 76 = .ok (.aload_n 0, 1) := by decide +kernel
theorem d_MaskEdgesModel_corner_77 : decode prog_8_method_6_code 77 = .ok (.getfield 7, 3) := by decide +kernel
theorem d_MaskEdgesModel_corner_80 : decode prog_8_method_6_code 80 = .ok (.iload 7, 2) := by decide +kernel
theorem d_MaskEdgesModel_corner_82 : decode prog_8_method_6_code 82 = .ok (.iload 6, 2) := by decide +kernel
theorem d_MaskEdgesModel_corner_84 : decode prog_8_method_6_code 84 = .ok (.iadd, 1) := by decide +kernel
theorem d_MaskEdgesModel_corner_85 : decode prog_8_method_6_code 85 = .ok (.iconst 1, 1) := by decide +kernel
theorem d_MaskEdgesModel_corner_86 : decode prog_8_method_6_code 86 = .ok (.isub, 1) := by decide +kernel
theorem d_MaskEdgesModel_corner_87 : decode prog_8_method_6_code 87 = .ok (.iaload, 1) := by decide +kernel
theorem d_MaskEdgesModel_corner_88 : decode prog_8_method_6_code 88 = .ok (.i2l, 1) := by decide +kernel
theorem d_MaskEdgesModel_corner_89 : decode prog_8_method_6_code 89 = .ok (.lload_n 2, 1) := by decide +kernel
theorem d_MaskEdgesModel_corner_90 : decode prog_8_method_6_code 90 = .ok (.lcmp, 1) := by decide +kernel
theorem d_MaskEdgesModel_corner_91 : decode prog_8_method_6_code 91 = .ok (.ifCond .ne 7, 3) := by decide +kernel
theorem d_MaskEdgesModel_corner_94 : decode prog_8_method_6_code 94 = .ok (.iconst 1, 1) := by decide +kernel
theorem d_MaskEdgesModel_corner_95 : decode prog_8_method_6_code 95 = .ok (.goto 4, 3) := by decide +kernel
theorem d_MaskEdgesModel_corner_98 : decode prog_8_method_6_code 98 = .ok (.iconst 0, 1) := by decide +kernel
theorem d_MaskEdgesModel_corner_99 : decode prog_8_method_6_code 99 = .ok (.istore 8, 2) := by decide +kernel
theorem d_MaskEdgesModel_corner_101 : decode prog_8_method_6_code 101 = .ok (.aload_n 0, 1) := by decide +kernel
theorem d_MaskEdgesModel_corner_102 : decode prog_8_method_6_code 102 = .ok (.getfield 13, 3) := by decide +kernel
theorem d_MaskEdgesModel_corner_105 : decode prog_8_method_6_code 105 = .ok (.iload 7, 2) := by decide +kernel
theorem d_MaskEdgesModel_corner_107 : decode prog_8_method_6_code 107 = .ok (.iload 6, 2) := by decide +kernel
theorem d_MaskEdgesModel_corner_109 : decode prog_8_method_6_code 109 = .ok (.iadd, 1) := by decide +kernel
theorem d_MaskEdgesModel_corner_110 : decode prog_8_method_6_code 110 = .ok (.iconst 1, 1) := by decide +kernel
theorem d_MaskEdgesModel_corner_111 : decode prog_8_method_6_code 111 = .ok (.isub, 1) := by decide +kernel
theorem d_MaskEdgesModel_corner_112 : decode prog_8_method_6_code 112 = .ok (.iaload, 1) := by decide +kernel
theorem d_MaskEdgesModel_corner_113 : decode prog_8_method_6_code 113 = .ok (.i2l, 1) := by decide +kernel
theorem d_MaskEdgesModel_corner_114 : decode prog_8_method_6_code 114 = .ok (.lload 4, 2) := by decide +kernel
theorem d_MaskEdgesModel_corner_116 : decode prog_8_method_6_code 116 = .ok (.lcmp, 1) := by decide +kernel
theorem d_MaskEdgesModel_corner_117 : decode prog_8_method_6_code 117 = .ok (.ifCond .ne 7, 3) := by decide +kernel
theorem d_MaskEdgesModel_corner_120 : decode prog_8_method_6_code 120 = .ok (.iconst 1, 1) := by decide +kernel
theorem d_MaskEdgesModel_corner_121 : decode prog_8_method_6_code 121 = .ok (.goto 4, 3) := by decide +kernel
theorem d_MaskEdgesModel_corner_124 : decode prog_8_method_6_code 124 = .ok (.iconst 0, 1) := by decide +kernel
theorem d_MaskEdgesModel_corner_125 : decode prog_8_method_6_code 125 = .ok (.istore 9, 2) := by decide +kernel
theorem d_MaskEdgesModel_corner_127 : decode prog_8_method_6_code 127 = .ok (.iload 8, 2) := by decide +kernel
theorem d_MaskEdgesModel_corner_129 : decode prog_8_method_6_code 129 = .ok (.iload 9, 2) := by decide +kernel
theorem d_MaskEdgesModel_corner_131 : decode prog_8_method_6_code 131 = .ok (.if_icmp .eq 23, 3) := by decide +kernel
theorem d_MaskEdgesModel_corner_134 : decode prog_8_method_6_code 134 = .ok (.iload 6, 2) := by decide +kernel
theorem d_MaskEdgesModel_corner_136 : decode prog_8_method_6_code 136 = .ok (.iconst 1, 1) := by decide +kernel
theorem d_MaskEdgesModel_corner_137 : decode prog_8_method_6_code 137 = .ok (.if_icmp .le 19, 3) := by decide +kernel
theorem d_MaskEdgesModel_corner_140 : decode prog_8_method_6_code 140 = .ok (.iload 9, 2) := by decide +kernel
theorem d_MaskEdgesModel_corner_142 : decode prog_8_method_6_code 142 = .ok (.aload_n 0, 1) := by decide +kernel
theorem d_MaskEdgesModel_corner_143 : decode prog_8_method_6_code 143 = .ok (.iload_n 1, 1) := by decide +kernel
theorem d_MaskEdgesModel_corner_144 : decode prog_8_method_6_code 144 = .ok (.iload 6, 2) := by decide +kernel
theorem d_MaskEdgesModel_corner_146 : decode prog_8_method_6_code 146 = .ok (.iconst 1, 1) := by decide +kernel
theorem d_MaskEdgesModel_corner_147 : decode prog_8_method_6_code 147 = .ok (.isub, 1) := by decide +kernel
theorem d_MaskEdgesModel_corner_148 : decode prog_8_method_6_code 148 = .ok (.invokevirtual 98, 3) := by decide +kernel
theorem d_MaskEdgesModel_corner_151 : decode prog_8_method_6_code 151 = .ok (.if_icmp .ne 5, 3) := by decide +kernel
theorem d_MaskEdgesModel_corner_154 : decode prog_8_method_6_code 154 = .ok (.iconst 0, 1) := by decide +kernel
theorem d_MaskEdgesModel_corner_155 : decode prog_8_method_6_code 155 = .ok (.ireturn, 1) := by decide +kernel
theorem d_MaskEdgesModel_corner_156 : decode prog_8_method_6_code 156 = .ok (.iload 6, 2) := by decide +kernel
theorem d_MaskEdgesModel_corner_158 : decode prog_8_method_6_code 158 = .ok (.iconst 3, 1) := by decide +kernel
theorem d_MaskEdgesModel_corner_159 : decode prog_8_method_6_code 159 = .ok (.if_icmp .le 52, 3) := by decide +kernel
theorem d_MaskEdgesModel_corner_162 : decode prog_8_method_6_code 162 = .ok (.aload_n 0, 1) := by decide +kernel
theorem d_MaskEdgesModel_corner_163 : decode prog_8_method_6_code 163 = .ok (.getfield 7, 3) := by decide +kernel
theorem d_MaskEdgesModel_corner_166 : decode prog_8_method_6_code 166 = .ok (.iload 7, 2) := by decide +kernel
theorem d_MaskEdgesModel_corner_168 : decode prog_8_method_6_code 168 = .ok (.iaload, 1) := by decide +kernel
theorem d_MaskEdgesModel_corner_169 : decode prog_8_method_6_code 169 = .ok (.i2l, 1) := by decide +kernel
theorem d_MaskEdgesModel_corner_170 : decode prog_8_method_6_code 170 = .ok (.lload_n 2, 1) := by decide +kernel
theorem d_MaskEdgesModel_corner_171 : decode prog_8_method_6_code 171 = .ok (.lcmp, 1) := by decide +kernel
theorem d_MaskEdgesModel_corner_172 : decode prog_8_method_6_code 172 = .ok (.ifCond .ne 39, 3) := by decide +kernel
theorem d_MaskEdgesModel_corner_175 : decode prog_8_method_6_code 175 = .ok (.aload_n 0, 1) := by decide +kernel
theorem d_MaskEdgesModel_corner_176 : decode prog_8_method_6_code 176 = .ok (.getfield 13, 3) := by decide +kernel
theorem d_MaskEdgesModel_corner_179 : decode prog_8_method_6_code 179 = .ok (.iload 7, 2) := by decide +kernel
theorem d_MaskEdgesModel_corner_181 : decode prog_8_method_6_code 181 = .ok (.iaload, 1) := by decide +kernel
theorem d_MaskEdgesModel_corner_182 : decode prog_8_method_6_code 182 = .ok (.i2l, 1) := by decide +kernel
theorem d_MaskEdgesModel_corner_183 : decode prog_8_method_6_code 183 = .ok (.lload 4, 2) := by decide +kernel
theorem d_MaskEdgesModel_corner_185 : decode prog_8_method_6_code 185 = .ok (.lcmp, 1) := by decide +kernel
theorem d_MaskEdgesModel_corner_186 : decode prog_8_method_6_code 186 = .ok (.ifCond .ne 25, 3) := by decide +kernel
theorem d_MaskEdgesModel_corner_189 : decode prog_8_method_6_code 189 = .ok (.iload 9, 2) := by decide +kernel
theorem d_MaskEdgesModel_corner_191 : decode prog_8_method_6_code 191 = .ok (.aload_n 0, 1) := by decide +kernel
theorem d_MaskEdgesModel_corner_192 : decode prog_8_method_6_code 192 = .ok (.iload_n 1, 1) := by decide +kernel
theorem d_MaskEdgesModel_corner_193 : decode prog_8_method_6_code 193 = .ok (.iconst 1, 1) := by decide +kernel
theorem d_MaskEdgesModel_corner_194 : decode prog_8_method_6_code 194 = .ok (.invokevirtual 98, 3) := by decide +kernel
theorem d_MaskEdgesModel_corner_197 : decode prog_8_method_6_code 197 = .ok (.if_icmp .ne 5, 3) := by decide +kernel
theorem d_MaskEdgesModel_corner_200 : decode prog_8_method_6_code 200 = .ok (.iconst 0, 1) := by decide +kernel
theorem d_MaskEdgesModel_corner_201 : decode prog_8_method_6_code 201 = .ok (.ireturn, 1) := by decide +kernel
theorem d_MaskEdgesModel_corner_202 : decode prog_8_method_6_code 202 = .ok (.aload_n 0, 1) := by decide +kernel
theorem d_MaskEdgesModel_corner_203 : decode prog_8_method_6_code 203 = .ok (.getfield 19, 3) := by decide +kernel
theorem d_MaskEdgesModel_corner_206 : decode prog_8_method_6_code 206 = .ok (.iload_n 1, 1) := by decide +kernel
theorem d_MaskEdgesModel_corner_207 : decode prog_8_method_6_code 207 = .ok (.iconst 1, 1) := by decide +kernel
theorem d_MaskEdgesModel_corner_208 : decode prog_8_method_6_code 208 = .ok (.bastore, 1) := by decide +kernel
theorem d_MaskEdgesModel_corner_209 : decode prog_8_method_6_code 209 = .ok (.iconst 1, 1) := by decide +kernel
theorem d_MaskEdgesModel_corner_210 : decode prog_8_method_6_code 210 = .ok (.ireturn, 1) := by decide +kernel
theorem d_MaskEdgesModel_corner_211 : decode prog_8_method_6_code 211 = .ok (.iload 6, 2) := by decide +kernel
theorem d_MaskEdgesModel_corner_213 : decode prog_8_method_6_code 213 = .ok (.bipush 16, 2) := by decide +kernel
theorem d_MaskEdgesModel_corner_215 : decode prog_8_method_6_code 215 = .ok (.if_icmp .ne 5, 3) := by decide +kernel
theorem d_MaskEdgesModel_corner_218 : decode prog_8_method_6_code 218 = .ok (.iconst 0, 1) := by decide +kernel
theorem d_MaskEdgesModel_corner_219 : decode prog_8_method_6_code 219 = .ok (.ireturn, 1) := by decide +kernel
theorem d_MaskEdgesModel_corner_220 : decode prog_8_method_6_code 220 = .ok (.aload_n 0, 1) := by decide +kernel
theorem d_MaskEdgesModel_corner_221 : decode prog_8_method_6_code 221 = .ok (.getfield 7, 3) := by decide +kernel
theorem d_MaskEdgesModel_corner_224 : decode prog_8_method_6_code 224 = .ok (.iload 7, 2) := by decide +kernel
theorem d_MaskEdgesModel_corner_226 : decode prog_8_method_6_code 226 = .ok (.iload 6, 2) := by decide +kernel
theorem d_MaskEdgesModel_corner_228 : decode prog_8_method_6_code 228 = .ok (.iadd, 1) := by decide +kernel
theorem d_MaskEdgesModel_corner_229 : decode prog_8_method_6_code 229 = .ok (.lload_n 2, 1) := by decide +kernel
theorem d_MaskEdgesModel_corner_230 : decode prog_8_method_6_code 230 = .ok (.l2i, 1) := by decide +kernel
theorem d_MaskEdgesModel_corner_231 : decode prog_8_method_6_code 231 = .ok (.iastore, 1) := by decide +kernel
theorem d_MaskEdgesModel_corner_232 : decode prog_8_method_6_code 232 = .ok (.aload_n 0, 1) := by decide +kernel
theorem d_MaskEdgesModel_corner_233 : decode prog_8_method_6_code 233 = .ok (.getfield 13, 3) := by decide +kernel
theorem d_MaskEdgesModel_corner_236 : decode prog_8_method_6_code 236 = .ok (.iload 7, 2) := by decide +kernel
theorem d_MaskEdgesModel_corner_238 : decode prog_8_method_6_code 238 = .ok (.iload 6, 2) := by decide +kernel
theorem d_MaskEdgesModel_corner_240 : decode prog_8_method_6_code 240 = .ok (.iadd, 1) := by decide +kernel
theorem d_MaskEdgesModel_corner_241 : decode prog_8_method_6_code 241 = .ok (.lload 4, 2) := by decide +kernel
theorem d_MaskEdgesModel_corner_243 : decode prog_8_method_6_code 243 = .ok (.l2i, 1) := by decide +kernel
theorem d_MaskEdgesModel_corner_244 : decode prog_8_method_6_code 244 = .ok (.iastore, 1) := by decide +kernel
theorem d_MaskEdgesModel_corner_245 : decode prog_8_method_6_code 245 = .ok (.aload_n 0, 1) := by decide +kernel
theorem d_MaskEdgesModel_corner_246 : decode prog_8_method_6_code 246 = .ok (.getfield 16, 3) := by decide +kernel
theorem d_MaskEdgesModel_corner_249 : decode prog_8_method_6_code 249 = .ok (.iload_n 1, 1) := by decide +kernel
theorem d_MaskEdgesModel_corner_250 : decode prog_8_method_6_code 250 = .ok (.dup2, 1) := by decide +kernel
theorem d_MaskEdgesModel_corner_251 : decode prog_8_method_6_code 251 = .ok (.iaload, 1) := by decide +kernel
theorem d_MaskEdgesModel_corner_252 : decode prog_8_method_6_code 252 = .ok (.iconst 1, 1) := by decide +kernel
theorem d_MaskEdgesModel_corner_253 : decode prog_8_method_6_code 253 = .ok (.iadd, 1) := by decide +kernel
theorem d_MaskEdgesModel_corner_254 : decode prog_8_method_6_code 254 = .ok (.iastore, 1) := by decide +kernel
theorem d_MaskEdgesModel_corner_255 : decode prog_8_method_6_code 255 = .ok (.iconst 1, 1) := by decide +kernel
theorem d_MaskEdgesModel_corner_256 : decode prog_8_method_6_code 256 = .ok (.ireturn, 1) := by decide +kernel
theorem d_MaskEdgesModel_isIn_0 : decode prog_8_method_7_code 0 = .ok (.iconst 0, 1) := by decide +kernel
theorem d_MaskEdgesModel_isIn_1 : decode prog_8_method_7_code 1 = .ok (.istore 4, 2) := by decide +kernel
theorem d_MaskEdgesModel_isIn_3 : decode prog_8_method_7_code 3 = .ok (.iconst 0, 1) := by decide +kernel
theorem d_MaskEdgesModel_isIn_4 : decode prog_8_method_7_code 4 = .ok (.istore 5, 2) := by decide +kernel
theorem d_MaskEdgesModel_isIn_6 : decode prog_8_method_7_code 6 = .ok (.iload 5, 2) := by decide +kernel
theorem d_MaskEdgesModel_isIn_8 : decode prog_8_method_7_code 8 = .ok (.aload_n 0, 1) := by decide +kernel
theorem d_MaskEdgesModel_isIn_9 : decode prog_8_method_7_code 9 = .ok (.getfield 16, 3) := by decide +kernel
theorem d_MaskEdgesModel_isIn_12 : decode prog_8_method_7_code 12 = .ok (.iload_n 1, 1) := by decide +kernel
theorem d_MaskEdgesModel_isIn_13 : decode prog_8_method_7_code 13 = .ok (.iaload, 1) := by decide +kernel
theorem d_MaskEdgesModel_isIn_14 : decode prog_8_method_7_code 14 = .ok (.if_icmp .ge 174, 3) := by decide +kernel
theorem d_MaskEdgesModel_isIn_17 : decode prog_8_method_7_code 17 = .ok (.aload_n 0, 1) := by decide +kernel
theorem d_MaskEdgesModel_isIn_18 : decode prog_8_method_7_code 18 = .ok (.getfield 19, 3) := by decide +kernel
theorem d_MaskEdgesModel_isIn_21 : decode prog_8_method_7_code 21 = .ok (.iload_n 1, 1) := by decide +kernel
theorem d_MaskEdgesModel_isIn_22 : decode prog_8_method_7_code 22 = .ok (.baload, 1) := by decide +kernel
theorem d_MaskEdgesModel_isIn_23 : decode prog_8_method_7_code 23 = .ok (.ifCond .eq 165, 3) := by decide +kernel
theorem d_MaskEdgesModel_isIn_26 : decode prog_8_method_7_code 26 = .ok (.bipush 16, 2) := by decide +kernel
theorem d_MaskEdgesModel_isIn_28 : decode prog_8_method_7_code 28 = .ok (.iload_n 1, 1) := by decide +kernel
theorem d_MaskEdgesModel_isIn_29 : decode prog_8_method_7_code 29 = .ok (.imul, 1) := by decide +kernel
theorem d_MaskEdgesModel_isIn_30 : decode prog_8_method_7_code 30 = .ok (.iload 5, 2) := by decide +kernel
theorem d_MaskEdgesModel_isIn_32 : decode prog_8_method_7_code 32 = .ok (.iadd, 1) := by decide +kernel
theorem d_MaskEdgesModel_isIn_33 : decode prog_8_method_7_code 33 = .ok (.istore 6, 2) := by decide +kernel
theorem d_MaskEdgesModel_isIn_35 : decode prog_8_method_7_code 35 = .ok (.bipush 16, 2) := by decide +kernel
theorem d_MaskEdgesModel_isIn_37 : decode prog_8_method_7_code 37 = .ok (.iload_n 1, 1) := by decide +kernel
theorem d_MaskEdgesModel_isIn_38 : decode prog_8_method_7_code 38 = .ok (.imul, 1) := by decide +kernel
theorem d_MaskEdgesModel_isIn_39 : decode prog_8_method_7_code 39 = .ok (.iload 5, 2) := by decide +kernel
theorem d_MaskEdgesModel_isIn_41 : decode prog_8_method_7_code 41 = .ok (.iconst 1, 1) := by decide +kernel
theorem d_MaskEdgesModel_isIn_42 : decode prog_8_method_7_code 42 = .ok (.iadd, 1) := by decide +kernel
theorem d_MaskEdgesModel_isIn_43 : decode prog_8_method_7_code 43 = .ok (.aload_n 0, 1) := by decide +kernel
theorem d_MaskEdgesModel_isIn_44 : decode prog_8_method_7_code 44 = .ok (.getfield 16, 3) := by decide +kernel
theorem d_MaskEdgesModel_isIn_47 : decode prog_8_method_7_code 47 = .ok (.iload_n 1, 1) := by decide +kernel
theorem d_MaskEdgesModel_isIn_48 : decode prog_8_method_7_code 48 = .ok (.iaload, 1) := by decide +kernel
theorem d_MaskEdgesModel_isIn_49 : decode prog_8_method_7_code 49 = .ok (.irem, 1) := by decide +kernel
theorem d_MaskEdgesModel_isIn_50 : decode prog_8_method_7_code 50 = .ok (.iadd, 1) := by decide +kernel
theorem d_MaskEdgesModel_isIn_51 : decode prog_8_method_7_code 51 = .ok (.istore 7, 2) := by decide +kernel
theorem d_MaskEdgesModel_isIn_53 : decode prog_8_method_7_code 53 = .ok (.aload_n 0, 1) := by decide +kernel
theorem d_MaskEdgesModel_isIn_54 : decode prog_8_method_7_code 54 = .ok (.getfield 13, 3) := by decide +kernel
theorem d_MaskEdgesModel_isIn_57 : decode prog_8_method_7_code 57 = .ok (.iload 6, 2) := by decide +kernel
theorem d_MaskEdgesModel_isIn_59 : decode prog_8_method_7_code 59 = .ok (.iaload, 1) := by decide +kernel
theorem d_MaskEdgesModel_isIn_60 : decode prog_8_method_7_code 60 = .ok (.aload_n 0, 1) := by decide +kernel
theorem d_MaskEdgesModel_isIn_61 : decode prog_8_method_7_code 61 = .ok (.getfield 13, 3) := by decide +kernel
theorem d_MaskEdgesModel_isIn_64 : decode prog_8_method_7_code 64 = .ok (.iload 7, 2) := by decide +kernel
theorem d_MaskEdgesModel_isIn_66 : decode prog_8_method_7_code 66 = .ok (.iaload, 1) := by decide +kernel
theorem d_MaskEdgesModel_isIn_67 : decode prog_8_method_7_code 67 = .ok (.if_icmp .ge 13, 3) := by decide +kernel
theorem d_MaskEdgesModel_isIn_70 : decode prog_8_method_7_code 70 = .ok (.aload_n 0, 1) := by decide +kernel
theorem d_MaskEdgesModel_isIn_71 : decode prog_8_method_7_code 71 = .ok (.getfield 13, 3) := by decide +kernel
theorem d_MaskEdgesModel_isIn_74 : decode prog_8_method_7_code 74 = .ok (.iload 6, 2) := by decide +kernel
theorem d_MaskEdgesModel_isIn_76 : decode prog_8_method_7_code 76 = .ok (.iaload, 1) := by decide +kernel
theorem d_MaskEdgesModel_isIn_77 : decode prog_8_method_7_code 77 = .ok (.goto 10, 3) := by decide +kernel
theorem d_MaskEdgesModel_isIn_80 : decode prog_8_method_7_code 80 = .ok (.aload_n 0, 1) := by decide +kernel
theorem d_MaskEdgesModel_isIn_81 : decode prog_8_method_7_code 81 = .ok (.getfield 13, 3) := by decide +kernel
theorem d_MaskEdgesModel_isIn_84 : decode prog_8_method_7_code 84 = .ok (.iload 7, 2) := by decide +kernel
theorem d_MaskEdgesModel_isIn_86 : decode prog_8_method_7_code 86 = .ok (.iaload, 1) := by decide +kernel
theorem d_MaskEdgesModel_isIn_87 : decode prog_8_method_7_code 87 = .ok (.istore 8, 2) := by decide +kernel
theorem d_MaskEdgesModel_isIn_89 : decode prog_8_method_7_code 89 = .ok (.aload_n 0, 1) := by decide +kernel
theorem d_MaskEdgesModel_isIn_90 : decode prog_8_method_7_code 90 = .ok (.getfield 13, 3) := by decide +kernel
theorem d_MaskEdgesModel_isIn_93 : decode prog_8_method_7_code 93 = .ok (.iload 6, 2) := by decide +kernel
theorem d_MaskEdgesModel_isIn_95 : decode prog_8_method_7_code 95 = .ok (.iaload, 1) := by decide +kernel
theorem d_MaskEdgesModel_isIn_96 : decode prog_8_method_7_code 96 = .ok (.aload_n 0, 1) := by decide +kernel
theorem d_MaskEdgesModel_isIn_97 : decode prog_8_method_7_code 97 = .ok (.getfield 13, 3) := by decide +kernel
theorem d_MaskEdgesModel_isIn_100 : decode prog_8_method_7_code 100 = .ok (.iload 7, 2) := by decide +kernel
theorem d_MaskEdgesModel_isIn_102 : decode prog_8_method_7_code 102 = .ok (.iaload, 1) := by decide +kernel
theorem d_MaskEdgesModel_isIn_103 : decode prog_8_method_7_code 103 = .ok (.if_icmp .ge 13, 3) := by decide +kernel
theorem d_MaskEdgesModel_isIn_106 : decode prog_8_method_7_code 106 = .ok (.aload_n 0, 1) := by decide +kernel
theorem d_MaskEdgesModel_isIn_107 : decode prog_8_method_7_code 107 = .ok (.getfield 13, 3) := by decide +kernel
theorem d_MaskEdgesModel_isIn_110 : decode prog_8_method_7_code 110 = .ok (.iload 7, 2) := by decide +kernel
theorem d_MaskEdgesModel_isIn_112 : decode prog_8_method_7_code 112 = .ok (.iaload, 1) := by decide +kernel
theorem d_MaskEdgesModel_isIn_113 : decode prog_8_method_7_code 113 = .ok (.goto 10, 3) := by decide +kernel
theorem d_MaskEdgesModel_isIn_116 : decode prog_8_method_7_code 116 = .ok (.aload_n 0, 1) := by decide +kernel
theorem d_MaskEdgesModel_isIn_117 : decode prog_8_method_7_code 117 = .ok (.getfield 13, 3) := by decide +kernel
theorem d_MaskEdgesModel_isIn_120 : decode prog_8_method_7_code 120 = .ok (.iload 6, 2) := by decide +kernel
theorem d_MaskEdgesModel_isIn_122 : decode prog_8_method_7_code 122 = .ok (.iaload, 1) := by decide +kernel
theorem d_MaskEdgesModel_isIn_123 : decode prog_8_method_7_code 123 = .ok (.istore 9, 2) := by decide +kernel
theorem d_MaskEdgesModel_isIn_125 : decode prog_8_method_7_code 125 = .ok (.aload_n 0, 1) := by decide +kernel
theorem d_MaskEdgesModel_isIn_126 : decode prog_8_method_7_code 126 = .ok (.getfield 7, 3) := by decide +kernel
theorem d_MaskEdgesModel_isIn_129 : decode prog_8_method_7_code 129 = .ok (.iload 6, 2) := by decide +kernel
theorem d_MaskEdgesModel_isIn_131 : decode prog_8_method_7_code 131 = .ok (.iaload, 1) := by decide +kernel
theorem d_MaskEdgesModel_isIn_132 : decode prog_8_method_7_code 132 = .ok (.aload_n 0, 1) := by decide +kernel
theorem d_MaskEdgesModel_isIn_133 : decode prog_8_method_7_code 133 = .ok (.getfield 7, 3) := by decide +kernel
theorem d_MaskEdgesModel_isIn_136 : decode prog_8_method_7_code 136 = .ok (.iload 7, 2) := by decide +kernel
theorem d_MaskEdgesModel_isIn_138 : decode prog_8_method_7_code 138 = .ok (.iaload, 1) := by decide +kernel
theorem d_MaskEdgesModel_isIn_139 : decode prog_8_method_7_code 139 = .ok (.if_icmp .ne 39, 3) := by decide +kernel
theorem d_MaskEdgesModel_isIn_142 : decode prog_8_method_7_code 142 = .ok (.aload_n 0, 1) := by decide +kernel
theorem d_MaskEdgesModel_isIn_143 : decode prog_8_method_7_code 143 = .ok (.getfield 7, 3) := by decide +kernel
theorem d_MaskEdgesModel_isIn_146 : decode prog_8_method_7_code 146 = .ok (.iload 6, 2) := by decide +kernel
theorem d_MaskEdgesModel_isIn_148 : decode prog_8_method_7_code 148 = .ok (.iaload, 1) := by decide +kernel
theorem d_MaskEdgesModel_isIn_149 : decode prog_8_method_7_code 149 = .ok (.iload_n 2, 1) := by decide +kernel
theorem d_MaskEdgesModel_isIn_150 : decode prog_8_method_7_code 150 = .ok (.if_icmp .gt 28, 3) := by decide +kernel
theorem d_MaskEdgesModel_isIn_153 : decode prog_8_method_7_code 153 = .ok (.iload 8, 2) := by decide +kernel
theorem d_MaskEdgesModel_isIn_155 : decode prog_8_method_7_code 155 = .ok (.iload_n 3, 1) := by decide +kernel
theorem d_MaskEdgesModel_isIn_156 : decode prog_8_method_7_code 156 = .ok (.if_icmp .gt 22, 3) := by decide +kernel
theorem d_MaskEdgesModel_isIn_159 : decode prog_8_method_7_code 159 = .ok (.iload_n 3, 1) := by decide +kernel
theorem d_MaskEdgesModel_isIn_160 : decode prog_8_method_7_code 160 = .ok (.iload 9, 2) := by decide +kernel
theorem d_MaskEdgesModel_isIn_162 : decode prog_8_method_7_code 162 = .ok (.if_icmp .ge 16, 3) := by decide +kernel
theorem d_MaskEdgesModel_isIn_165 : decode prog_8_method_7_code 165 = .ok (.iload 4, 2) := by decide +kernel
theorem d_MaskEdgesModel_isIn_167 : decode prog_8_method_7_code 167 = .ok (.ifCond .ne 7, 3) := by decide +kernel
theorem d_MaskEdgesModel_isIn_170 : decode prog_8_method_7_code 170 = .ok (.iconst 1, 1) := by decide +kernel
theorem d_MaskEdgesModel_isIn_171 : decode prog_8_method_7_code 171 = .ok (.goto 9, 3) := by decide +kernel
theorem d_MaskEdgesModel_isIn_174 : decode prog_8_method_7_code 174 = .ok (.iconst 0, 1) := by decide +kernel
theorem d_MaskEdgesModel_isIn_175 : decode prog_8_method_7_code 175 = .ok (.goto 5, 3) := by decide +kernel
theorem d_MaskEdgesModel_isIn_178 : decode prog_8_method_7_code 178 = .ok (.iload 4, 2) := by decide +kernel
theorem d_MaskEdgesModel_isIn_180 : decode prog_8_method_7_code 180 = .ok (.istore 4, 2) := by decide +kernel
theorem d_MaskEdgesModel_isIn_182 : decode prog_8_method_7_code 182 = .ok (.iinc 5 1, 3) := by decide +kernel
theorem d_MaskEdgesModel_isIn_185 : decode prog_8_method_7_code 185 = .ok (.goto (-179), 3) := by decide +kernel
theorem d_MaskEdgesModel_isIn_188 : decode prog_8_method_7_code 188 = .ok (.iload 4, 2) := by decide +kernel
theorem d_MaskEdgesModel_isIn_190 : decode prog_8_method_7_code 190 = .ok (.ifCond .eq 15, 3) := by decide +kernel
theorem d_MaskEdgesModel_isIn_193 : decode prog_8_method_7_code 193 = .ok (.iload_n 2, 1) := by decide +kernel
theorem d_MaskEdgesModel_isIn_194 : decode prog_8_method_7_code 194 = .ok (.iload_n 3, 1) := by decide +kernel
theorem d_MaskEdgesModel_isIn_195 : decode prog_8_method_7_code 195 = .ok (.invokestatic 102, 3) := by decide +kernel
theorem d_MaskEdgesModel_isIn_198 : decode prog_8_method_7_code 198 = .ok (.ifCond .eq 7, 3) := by decide +kernel
theorem d_MaskEdgesModel_isIn_201 : decode prog_8_method_7_code 201 = .ok (.iconst 1, 1) := by decide +kernel
theorem d_MaskEdgesModel_isIn_202 : decode prog_8_method_7_code 202 = .ok (.goto 4, 3) := by decide +kernel
theorem d_MaskEdgesModel_isIn_205 : decode prog_8_method_7_code 205 = .ok (.iconst 0, 1) := by decide +kernel
theorem d_MaskEdgesModel_isIn_206 : decode prog_8_method_7_code 206 = .ok (.ireturn, 1) := by decide +kernel
theorem d_MaskEdgesModel_isTarget_0 : decode prog_8_method_8_code 0 = .ok (.iconst 0, 1) := by decide +kernel
theorem d_MaskEdgesModel_isTarget_1 : decode prog_8_method_8_code 1 = .ok (.istore_n 3, 1) := by decide +kernel
theorem d_MaskEdgesModel_isTarget_2 : decode prog_8_method_8_code 2 = .ok (.iconst 0, 1) := by decide +kernel
theorem d_MaskEdgesModel_isTarget_3 : decode prog_8_method_8_code 3 = .ok (.istore 4, 2) := by decide +kernel
theorem d_MaskEdgesModel_isTarget_5 : decode prog_8_method_8_code 5 = .ok (.iload 4, 2) := by decide +kernel
theorem d_MaskEdgesModel_isTarget_7 : decode prog_8_method_8_code 7 = .ok (.aload_n 0, 1) := by decide +kernel
theorem d_MaskEdgesModel_isTarget_8 : decode prog_8_method_8_code 8 = .ok (.getfield 93, 3) := by decide +kernel
theorem d_MaskEdgesModel_isTarget_11 : decode prog_8_method_8_code 11 = .ok (.if_icmp .ge 30, 3) := by decide +kernel
theorem d_MaskEdgesModel_isTarget_14 : decode prog_8_method_8_code 14 = .ok (.iload_n 3, 1) := by decide +kernel
theorem d_MaskEdgesModel_isTarget_15 : decode prog_8_method_8_code 15 = .ok (.ifCond .ne 14, 3) := by decide +kernel
theorem d_MaskEdgesModel_isTarget_18 : decode prog_8_method_8_code 18 = .ok (.aload_n 0, 1) := by decide +kernel
theorem d_MaskEdgesModel_isTarget_19 : decode prog_8_method_8_code 19 = .ok (.iload 4, 2) := by decide +kernel
theorem d_MaskEdgesModel_isTarget_21 : decode prog_8_method_8_code 21 = .ok (.iload_n 1, 1) := by decide +kernel
theorem d_MaskEdgesModel_isTarget_22 : decode prog_8_method_8_code 22 = .ok (.iload_n 2, 1) := by decide +kernel
theorem d_MaskEdgesModel_isTarget_23 : decode prog_8_method_8_code 23 = .ok (.invokevirtual 105, 3) := by decide +kernel
theorem d_MaskEdgesModel_isTarget_26 : decode prog_8_method_8_code 26 = .ok (.ifCond .eq 7, 3) := by decide +kernel
theorem d_MaskEdgesModel_isTarget_29 : decode prog_8_method_8_code 29 = .ok (.iconst 1, 1) := by decide +kernel
theorem d_MaskEdgesModel_isTarget_30 : decode prog_8_method_8_code 30 = .ok (.goto 4, 3) := by decide +kernel
theorem d_MaskEdgesModel_isTarget_33 : decode prog_8_method_8_code 33 = .ok (.iconst 0, 1) := by decide +kernel
theorem d_MaskEdgesModel_isTarget_34 : decode prog_8_method_8_code 34 = .ok (.istore_n 3, 1) := by decide +kernel
theorem d_MaskEdgesModel_isTarget_35 : decode prog_8_method_8_code 35 = .ok (.iinc 4 1, 3) := by decide +kernel
theorem d_MaskEdgesModel_isTarget_38 : decode prog_8_method_8_code 38 = .ok (.goto (-33), 3) := by decide +kernel
theorem d_MaskEdgesModel_isTarget_41 : decode prog_8_method_8_code 41 = .ok (.iload_n 3, 1) := by decide +kernel
theorem d_MaskEdgesModel_isTarget_42 : decode prog_8_method_8_code 42 = .ok (.ireturn, 1) := by decide +kernel
theorem d_MaskEdgesModel_kernel_0 : decode prog_8_method_9_code 0 = .ok (.iload_n 1, 1) := by decide +kernel
theorem d_MaskEdgesModel_kernel_1 : decode prog_8_method_9_code 1 = .ok (.i2l, 1) := by decide +kernel
theorem d_MaskEdgesModel_kernel_2 : decode prog_8_method_9_code 2 = .ok (.ldc2_w 109, 3) := by decide +kernel
theorem d_MaskEdgesModel_kernel_5 : decode prog_8_method_9_code 5 = .ok (.ldc2_w 111, 3) := by decide +kernel
theorem d_MaskEdgesModel_kernel_8 : decode prog_8_method_9_code 8 = .ok (.invokestatic 86, 3) := by decide +kernel
theorem d_MaskEdgesModel_kernel_11 : decode prog_8_method_9_code 11 = .ok (.ifCond .eq 15, 3) := by decide +kernel
theorem d_MaskEdgesModel_kernel_14 : decode prog_8_method_9_code 14 = .ok (.iload_n 2, 1) := by decide +kernel
theorem d_MaskEdgesModel_kernel_15 : decode prog_8_method_9_code 15 = .ok (.i2l, 1) := by decide +kernel
theorem d_MaskEdgesModel_kernel_16 : decode prog_8_method_9_code 16 = .ok (.lconst 0, 1) := by decide +kernel
theorem d_MaskEdgesModel_kernel_17 : decode prog_8_method_9_code 17 = .ok (.ldc2_w 113, 3) := by decide +kernel
theorem d_MaskEdgesModel_kernel_20 : decode prog_8_method_9_code 20 = .ok (.invokestatic 86, 3) := by decide +kernel
theorem d_MaskEdgesModel_kernel_23 : decode prog_8_method_9_code 23 = .ok (.ifCond .ne 6, 3) := by decide +kernel
theorem d_MaskEdgesModel_kernel_26 : decode prog_8_method_9_code 26 = .ok (.bipush (-2), 2) := by decide +kernel
theorem d_MaskEdgesModel_kernel_28 : decode prog_8_method_9_code 28 = .ok (.ireturn, 1) := by decide +kernel
theorem d_MaskEdgesModel_kernel_29 : decode prog_8_method_9_code 29 = .ok (.aload_n 0, 1) := by decide +kernel
theorem d_MaskEdgesModel_kernel_30 : decode prog_8_method_9_code 30 = .ok (.getfield 115, 3) := by decide +kernel
theorem d_MaskEdgesModel_kernel_33 : decode prog_8_method_9_code 33 = .ok (.bipush 6, 2) := by decide +kernel
theorem d_MaskEdgesModel_kernel_35 : decode prog_8_method_9_code 35 = .ok (.if_icmp .ne 6, 3) := by decide +kernel
theorem d_MaskEdgesModel_kernel_38 : decode prog_8_method_9_code 38 = .ok (.bipush (-4), 2) := by decide +kernel
theorem d_MaskEdgesModel_kernel_40 : decode prog_8_method_9_code 40 = .ok (.ireturn, 1) := by decide +kernel
theorem d_MaskEdgesModel_kernel_41 : decode prog_8_method_9_code 41 = .ok (.aload_n 0, 1) := by decide +kernel
theorem d_MaskEdgesModel_kernel_42 : decode prog_8_method_9_code 42 = .ok (.getfield 23, 3) := by decide +kernel
theorem d_MaskEdgesModel_kernel_45 : decode prog_8_method_9_code 45 = .ok (.aload_n 0, 1) := by decide +kernel
theorem d_MaskEdgesModel_kernel_46 : decode prog_8_method_9_code 46 = .ok (.getfield 115, 3) := by decide +kernel
theorem d_MaskEdgesModel_kernel_49 : decode prog_8_method_9_code 49 = .ok (.iload_n 1, 1) := by decide +kernel
theorem d_MaskEdgesModel_kernel_50 : decode prog_8_method_9_code 50 = .ok (.iastore, 1) := by decide +kernel
theorem d_MaskEdgesModel_kernel_51 : decode prog_8_method_9_code 51 = .ok (.aload_n 0, 1) := by decide +kernel
theorem d_MaskEdgesModel_kernel_52 : decode prog_8_method_9_code 52 = .ok (.getfield 26, 3) := by decide +kernel
theorem d_MaskEdgesModel_kernel_55 : decode prog_8_method_9_code 55 = .ok (.aload_n 0, 1) := by decide +kernel
theorem d_MaskEdgesModel_kernel_56 : decode prog_8_method_9_code 56 = .ok (.getfield 115, 3) := by decide +kernel
theorem d_MaskEdgesModel_kernel_59 : decode prog_8_method_9_code 59 = .ok (.iload_n 2, 1) := by decide +kernel
theorem d_MaskEdgesModel_kernel_60 : decode prog_8_method_9_code 60 = .ok (.iastore, 1) := by decide +kernel
theorem d_MaskEdgesModel_kernel_61 : decode prog_8_method_9_code 61 = .ok (.aload_n 0, 1) := by decide +kernel
theorem d_MaskEdgesModel_kernel_62 : decode prog_8_method_9_code 62 = .ok (.dup, 1) := by decide +kernel
theorem d_MaskEdgesModel_kernel_63 : decode prog_8_method_9_code 63 = .ok (.getfield 115, 3) := by decide +kernel
theorem d_MaskEdgesModel_kernel_66 : decode prog_8_method_9_code 66 = .ok (.iconst 1, 1) := by decide +kernel
theorem d_MaskEdgesModel_kernel_67 : decode prog_8_method_9_code 67 = .ok (.iadd, 1) := by decide +kernel
theorem d_MaskEdgesModel_kernel_68 : decode prog_8_method_9_code 68 = .ok (.putfield 115, 3) := by decide +kernel
theorem d_MaskEdgesModel_kernel_71 : decode prog_8_method_9_code 71 = .ok (.aload_n 0, 1) := by decide +kernel
theorem d_MaskEdgesModel_kernel_72 : decode prog_8_method_9_code 72 = .ok (.getfield 115, 3) := by decide +kernel
theorem d_MaskEdgesModel_kernel_75 : decode prog_8_method_9_code 75 = .ok (.iconst 1, 1) := by decide +kernel
theorem d_MaskEdgesModel_kernel_76 : decode prog_8_method_9_code 76 = .ok (.isub, 1) := by decide +kernel
theorem d_MaskEdgesModel_kernel_77 : decode prog_8_method_9_code 77 = .ok (.ireturn, 1) := by decide +kernel
theorem d_MaskEdgesModel_hasClosed_0 : decode prog_8_method_10_code 0 = .ok (.iconst 0, 1) := by decide +kernel
theorem d_MaskEdgesModel_hasClosed_1 : decode prog_8_method_10_code 1 = .ok (.istore_n 1, 1) := by decide +kernel
theorem d_MaskEdgesModel_hasClosed_2 : decode prog_8_method_10_code 2 = .ok (.iconst 0, 1) := by decide +kernel
theorem d_MaskEdgesModel_hasClosed_3 : decode prog_8_method_10_code 3 = .ok (.istore_n 2, 1) := by decide +kernel
theorem d_MaskEdgesModel_hasClosed_4 : decode prog_8_method_10_code 4 = .ok (.iload_n 2, 1) := by decide +kernel
theorem d_MaskEdgesModel_hasClosed_5 : decode prog_8_method_10_code 5 = .ok (.aload_n 0, 1) := by decide +kernel
theorem d_MaskEdgesModel_hasClosed_6 : decode prog_8_method_10_code 6 = .ok (.getfield 93, 3) := by decide +kernel
theorem d_MaskEdgesModel_hasClosed_9 : decode prog_8_method_10_code 9 = .ok (.if_icmp .ge 28, 3) := by decide +kernel
theorem d_MaskEdgesModel_hasClosed_12 : decode prog_8_method_10_code 12 = .ok (.iload_n 1, 1) := by decide +kernel
theorem d_MaskEdgesModel_hasClosed_13 : decode prog_8_method_10_code 13 = .ok (.ifCond .ne 12, 3) := by decide +kernel
theorem d_MaskEdgesModel_hasClosed_16 : decode prog_8_method_10_code 16 = .ok (.aload_n 0, 1) := by decide +kernel
theorem d_MaskEdgesModel_hasClosed_17 : decode prog_8_method_10_code 17 = .ok (.getfield 19, 3) := by decide +kernel
theorem d_MaskEdgesModel_hasClosed_20 : decode prog_8_method_10_code 20 = .ok (.iload_n 2, 1) := by decide +kernel
theorem d_MaskEdgesModel_hasClosed_21 : decode prog_8_method_10_code 21 = .ok (.baload, 1) := by decide +kernel
theorem d_MaskEdgesModel_hasClosed_22 : decode prog_8_method_10_code 22 = .ok (.ifCond .eq 7, 3) := by decide +kernel
theorem d_MaskEdgesModel_hasClosed_25 : decode prog_8_method_10_code 25 = .ok (.iconst 1, 1) := by decide +kernel
theorem d_MaskEdgesModel_hasClosed_26 : decode prog_8_method_10_code 26 = .ok (.goto 4, 3) := by decide +kernel
theorem d_MaskEdgesModel_hasClosed_29 : decode prog_8_method_10_code 29 = .ok (.iconst 0, 1) := by decide +kernel
theorem d_MaskEdgesModel_hasClosed_30 : decode prog_8_method_10_code 30 = .ok (.istore_n 1, 1) := by decide +kernel
theorem d_MaskEdgesModel_hasClosed_31 : decode prog_8_method_10_code 31 = .ok (.iinc 2 1, 3) := by decide +kernel
theorem d_MaskEdgesModel_hasClosed_34 : decode prog_8_method_10_code 34 = .ok (.goto (-30), 3) := by decide +kernel
theorem d_MaskEdgesModel_hasClosed_37 : decode prog_8_method_10_code 37 = .ok (.iload_n 1, 1) := by decide +kernel
theorem d_MaskEdgesModel_hasClosed_38 : decode prog_8_method_10_code 38 = .ok (.ireturn, 1) := by decide +kernel
theorem d_MaskEdgesModel_lengthOf_0 : decode prog_8_method_11_code 0 = .ok (.bipush 16, 2) := by decide +kernel
theorem d_MaskEdgesModel_lengthOf_2 : decode prog_8_method_11_code 2 = .ok (.iload_n 1, 1) := by decide +kernel
theorem d_MaskEdgesModel_lengthOf_3 : decode prog_8_method_11_code 3 = .ok (.imul, 1) := by decide +kernel
theorem d_MaskEdgesModel_lengthOf_4 : decode prog_8_method_11_code 4 = .ok (.iload_n 2, 1) := by decide +kernel
theorem d_MaskEdgesModel_lengthOf_5 : decode prog_8_method_11_code 5 = .ok (.iadd, 1) := by decide +kernel
theorem d_MaskEdgesModel_lengthOf_6 : decode prog_8_method_11_code 6 = .ok (.istore_n 3, 1) := by decide +kernel
theorem d_MaskEdgesModel_lengthOf_7 : decode prog_8_method_11_code 7 = .ok (.bipush 16, 2) := by decide +kernel
theorem d_MaskEdgesModel_lengthOf_9 : decode prog_8_method_11_code 9 = .ok (.iload_n 1, 1) := by decide +kernel
theorem d_MaskEdgesModel_lengthOf_10 : decode prog_8_method_11_code 10 = .ok (.imul, 1) := by decide +kernel
theorem d_MaskEdgesModel_lengthOf_11 : decode prog_8_method_11_code 11 = .ok (.iload_n 2, 1) := by decide +kernel
theorem d_MaskEdgesModel_lengthOf_12 : decode prog_8_method_11_code 12 = .ok (.iconst 1, 1) := by decide +kernel
theorem d_MaskEdgesModel_lengthOf_13 : decode prog_8_method_11_code 13 = .ok (.iadd, 1) := by decide +kernel
theorem d_MaskEdgesModel_lengthOf_14 : decode prog_8_method_11_code 14 = .ok (.aload_n 0, 1) := by decide +kernel
theorem d_MaskEdgesModel_lengthOf_15 : decode prog_8_method_11_code 15 = .ok (.getfield 16, 3) := by decide +kernel
theorem d_MaskEdgesModel_lengthOf_18 : decode prog_8_method_11_code 18 = .ok (.iload_n 1, 1) := by decide +kernel
theorem d_MaskEdgesModel_lengthOf_19 : decode prog_8_method_11_code 19 = .ok (.iaload, 1) := by decide +kernel
theorem d_MaskEdgesModel_lengthOf_20 : decode prog_8_method_11_code 20 = .ok (.irem, 1) := by decide +kernel
theorem d_MaskEdgesModel_lengthOf_21 : decode prog_8_method_11_code 21 = .ok (.iadd, 1) := by decide +kernel
theorem d_MaskEdgesModel_lengthOf_22 : decode prog_8_method_11_code 22 = .ok (.istore 4, 2) := by decide +kernel
theorem d_MaskEdgesModel_lengthOf_24 : decode prog_8_method_11_code 24 = .ok (.aload_n 0, 1) := by decide +kernel
theorem d_MaskEdgesModel_lengthOf_25 : decode prog_8_method_11_code 25 = .ok (.getfield 7, 3) := by decide +kernel
theorem d_MaskEdgesModel_lengthOf_28 : decode prog_8_method_11_code 28 = .ok (.iload 4, 2) := by decide +kernel
theorem d_MaskEdgesModel_lengthOf_30 : decode prog_8_method_11_code 30 = .ok (.iaload, 1) := by decide +kernel
theorem d_MaskEdgesModel_lengthOf_31 : decode prog_8_method_11_code 31 = .ok (.aload_n 0, 1) := by decide +kernel
theorem d_MaskEdgesModel_lengthOf_32 : decode prog_8_method_11_code 32 = .ok (.getfield 7, 3) := by decide +kernel
theorem d_MaskEdgesModel_lengthOf_35 : decode prog_8_method_11_code 35 = .ok (.iload_n 3, 1) := by decide +kernel
theorem d_MaskEdgesModel_lengthOf_36 : decode prog_8_method_11_code 36 = .ok (.iaload, 1) := by decide +kernel
theorem d_MaskEdgesModel_lengthOf_37 : decode prog_8_method_11_code 37 = .ok (.isub, 1) := by decide +kernel
theorem d_MaskEdgesModel_lengthOf_38 : decode prog_8_method_11_code 38 = .ok (.aload_n 0, 1) := by decide +kernel
theorem d_MaskEdgesModel_lengthOf_39 : decode prog_8_method_11_code 39 = .ok (.getfield 13, 3) := by decide +kernel
theorem d_MaskEdgesModel_lengthOf_42 : decode prog_8_method_11_code 42 = .ok (.iload 4, 2) := by decide +kernel
theorem d_MaskEdgesModel_lengthOf_44 : decode prog_8_method_11_code 44 = .ok (.iaload, 1) := by decide +kernel
theorem d_MaskEdgesModel_lengthOf_45 : decode prog_8_method_11_code 45 = .ok (.iadd, 1) := by decide +kernel
theorem d_MaskEdgesModel_lengthOf_46 : decode prog_8_method_11_code 46 = .ok (.aload_n 0, 1) := by decide +kernel
theorem d_MaskEdgesModel_lengthOf_47 : decode prog_8_method_11_code 47 = .ok (.getfield 13, 3) := by decide +kernel
theorem d_MaskEdgesModel_lengthOf_50 : decode prog_8_method_11_code 50 = .ok (.iload_n 3, 1) := by decide +kernel
theorem d_MaskEdgesModel_lengthOf_51 : decode prog_8_method_11_code 51 = .ok (.iaload, 1) := by decide +kernel
theorem d_MaskEdgesModel_lengthOf_52 : decode prog_8_method_11_code 52 = .ok (.isub, 1) := by decide +kernel
theorem d_MaskEdgesModel_lengthOf_53 : decode prog_8_method_11_code 53 = .ok (.istore 5, 2) := by decide +kernel
theorem d_MaskEdgesModel_lengthOf_55 : decode prog_8_method_11_code 55 = .ok (.iload 5, 2) := by decide +kernel
theorem d_MaskEdgesModel_lengthOf_57 : decode prog_8_method_11_code 57 = .ok (.ifCond .ge 9, 3) := by decide +kernel
theorem d_MaskEdgesModel_lengthOf_60 : decode prog_8_method_11_code 60 = .ok (.iload 5, 2) := by decide +kernel
theorem d_MaskEdgesModel_lengthOf_62 : decode prog_8_method_11_code 62 = .ok (.ineg, 1) := by decide +kernel
theorem d_MaskEdgesModel_lengthOf_63 : decode prog_8_method_11_code 63 = .ok (.goto 5, 3) := by decide +kernel
theorem d_MaskEdgesModel_lengthOf_66 : decode prog_8_method_11_code 66 = .ok (.iload 5, 2) := by decide +kernel
theorem d_MaskEdgesModel_lengthOf_68 : decode prog_8_method_11_code 68 = .ok (.ireturn, 1) := by decide +kernel
theorem d_MaskEdgesModel_middle_0 : decode prog_8_method_12_code 0 = .ok (.aload_n 0, 1) := by decide +kernel
theorem d_MaskEdgesModel_middle_1 : decode prog_8_method_12_code 1 = .ok (.getfield 36, 3) := by decide +kernel
theorem d_MaskEdgesModel_middle_4 : decode prog_8_method_12_code 4 = .ok (.iload_n 1, 1) := by decide +kernel
theorem d_MaskEdgesModel_middle_5 : decode prog_8_method_12_code 5 = .ok (.iaload, 1) := by decide +kernel
theorem d_MaskEdgesModel_middle_6 : decode prog_8_method_12_code 6 = .ok (.aload_n 0, 1) := by decide +kernel
theorem d_MaskEdgesModel_middle_7 : decode prog_8_method_12_code 7 = .ok (.getfield 39, 3) := by decide +kernel
theorem d_MaskEdgesModel_middle_10 : decode prog_8_method_12_code 10 = .ok (.iload_n 1, 1) := by decide +kernel
theorem d_MaskEdgesModel_middle_11 : decode prog_8_method_12_code 11 = .ok (.iaload, 1) := by decide +kernel
theorem d_MaskEdgesModel_middle_12 : decode prog_8_method_12_code 12 = .ok (.iadd, 1) := by decide +kernel
theorem d_MaskEdgesModel_middle_13 : decode prog_8_method_12_code 13 = .ok (.iconst 1, 1) := by decide +kernel
theorem d_MaskEdgesModel_middle_14 : decode prog_8_method_12_code 14 = .ok (.isub, 1) := by decide +kernel
theorem d_MaskEdgesModel_middle_15 : decode prog_8_method_12_code 15 = .ok (.iconst 2, 1) := by decide +kernel
theorem d_MaskEdgesModel_middle_16 : decode prog_8_method_12_code 16 = .ok (.idiv, 1) := by decide +kernel
theorem d_MaskEdgesModel_middle_17 : decode prog_8_method_12_code 17 = .ok (.ireturn, 1) := by decide +kernel
theorem d_MaskEdgesModel_besideX_0 : decode prog_8_method_13_code 0 = .ok (.aload_n 0, 1) := by decide +kernel
theorem d_MaskEdgesModel_besideX_1 : decode prog_8_method_13_code 1 = .ok (.getfield 42, 3) := by decide +kernel
theorem d_MaskEdgesModel_besideX_4 : decode prog_8_method_13_code 4 = .ok (.iload_n 1, 1) := by decide +kernel
theorem d_MaskEdgesModel_besideX_5 : decode prog_8_method_13_code 5 = .ok (.baload, 1) := by decide +kernel
theorem d_MaskEdgesModel_besideX_6 : decode prog_8_method_13_code 6 = .ok (.ifCond .eq 11, 3) := by decide +kernel
theorem d_MaskEdgesModel_besideX_9 : decode prog_8_method_13_code 9 = .ok (.aload_n 0, 1) := by decide +kernel
theorem d_MaskEdgesModel_besideX_10 : decode prog_8_method_13_code 10 = .ok (.iload_n 1, 1) := by decide +kernel
theorem d_MaskEdgesModel_besideX_11 : decode prog_8_method_13_code 11 = .ok (.invokevirtual 118, 3) := by decide +kernel
theorem d_MaskEdgesModel_besideX_14 : decode prog_8_method_13_code 14 = .ok (.goto 11, 3) := by decide +kernel
theorem d_MaskEdgesModel_besideX_17 : decode prog_8_method_13_code 17 = .ok (.aload_n 0, 1) := by decide +kernel
theorem d_MaskEdgesModel_besideX_18 : decode prog_8_method_13_code 18 = .ok (.getfield 33, 3) := by decide +kernel
theorem d_MaskEdgesModel_besideX_21 : decode prog_8_method_13_code 21 = .ok (.iload_n 1, 1) := by decide +kernel
theorem d_MaskEdgesModel_besideX_22 : decode prog_8_method_13_code 22 = .ok (.iaload, 1) := by decide +kernel
theorem d_MaskEdgesModel_besideX_23 : decode prog_8_method_13_code 23 = .ok (.iload_n 2, 1) := by decide +kernel
theorem d_MaskEdgesModel_besideX_24 : decode prog_8_method_13_code 24 = .ok (.iadd, 1) := by decide +kernel
theorem d_MaskEdgesModel_besideX_25 : decode prog_8_method_13_code 25 = .ok (.ireturn, 1) := by decide +kernel
theorem d_MaskEdgesModel_besideY_0 : decode prog_8_method_14_code 0 = .ok (.aload_n 0, 1) := by decide +kernel
theorem d_MaskEdgesModel_besideY_1 : decode prog_8_method_14_code 1 = .ok (.getfield 42, 3) := by decide +kernel
theorem d_MaskEdgesModel_besideY_4 : decode prog_8_method_14_code 4 = .ok (.iload_n 1, 1) := by decide +kernel
theorem d_MaskEdgesModel_besideY_5 : decode prog_8_method_14_code 5 = .ok (.baload, 1) := by decide +kernel
theorem d_MaskEdgesModel_besideY_6 : decode prog_8_method_14_code 6 = .ok (.ifCond .eq 14, 3) := by decide +kernel
theorem d_MaskEdgesModel_besideY_9 : decode prog_8_method_14_code 9 = .ok (.aload_n 0, 1) := by decide +kernel
theorem d_MaskEdgesModel_besideY_10 : decode prog_8_method_14_code 10 = .ok (.getfield 33, 3) := by decide +kernel
theorem d_MaskEdgesModel_besideY_13 : decode prog_8_method_14_code 13 = .ok (.iload_n 1, 1) := by decide +kernel
theorem d_MaskEdgesModel_besideY_14 : decode prog_8_method_14_code 14 = .ok (.iaload, 1) := by decide +kernel
theorem d_MaskEdgesModel_besideY_15 : decode prog_8_method_14_code 15 = .ok (.iload_n 2, 1) := by decide +kernel
theorem d_MaskEdgesModel_besideY_16 : decode prog_8_method_14_code 16 = .ok (.iadd, 1) := by decide +kernel
theorem d_MaskEdgesModel_besideY_17 : decode prog_8_method_14_code 17 = .ok (.goto 8, 3) := by decide +kernel
theorem d_MaskEdgesModel_besideY_20 : decode prog_8_method_14_code 20 = .ok (.aload_n 0, 1) := by decide +kernel
theorem d_MaskEdgesModel_besideY_21 : decode prog_8_method_14_code 21 = .ok (.iload_n 1, 1) := by decide +kernel
theorem d_MaskEdgesModel_besideY_22 : decode prog_8_method_14_code 22 = .ok (.invokevirtual 118, 3) := by decide +kernel
theorem d_MaskEdgesModel_besideY_25 : decode prog_8_method_14_code 25 = .ok (.ireturn, 1) := by decide +kernel
theorem d_MaskEdgesModel_addPieces_0 : decode prog_8_method_15_code 0 = .ok (.bipush 16, 2) := by decide +kernel
theorem d_MaskEdgesModel_addPieces_2 : decode prog_8_method_15_code 2 = .ok (.iload_n 1, 1) := by decide +kernel
theorem d_MaskEdgesModel_addPieces_3 : decode prog_8_method_15_code 3 = .ok (.imul, 1) := by decide +kernel
theorem d_MaskEdgesModel_addPieces_4 : decode prog_8_method_15_code 4 = .ok (.iload_n 2, 1) := by decide +kernel
theorem d_MaskEdgesModel_addPieces_5 : decode prog_8_method_15_code 5 = .ok (.iadd, 1) := by decide +kernel
theorem d_MaskEdgesModel_addPieces_6 : decode prog_8_method_15_code 6 = .ok (.istore 4, 2) := by decide +kernel
theorem d_MaskEdgesModel_addPieces_8 : decode prog_8_method_15_code 8 = .ok (.bipush 16, 2) := by decide +kernel
theorem d_MaskEdgesModel_addPieces_10 : decode prog_8_method_15_code 10 = .ok (.iload_n 1, 1) := by decide +kernel
theorem d_MaskEdgesModel_addPieces_11 : decode prog_8_method_15_code 11 = .ok (.imul, 1) := by decide +kernel
theorem d_MaskEdgesModel_addPieces_12 : decode prog_8_method_15_code 12 = .ok (.iload_n 2, 1) := by decide +kernel
theorem d_MaskEdgesModel_addPieces_13 : decode prog_8_method_15_code 13 = .ok (.iconst 1, 1) := by decide +kernel
theorem d_MaskEdgesModel_addPieces_14 : decode prog_8_method_15_code 14 = .ok (.iadd, 1) := by decide +kernel
theorem d_MaskEdgesModel_addPieces_15 : decode prog_8_method_15_code 15 = .ok (.aload_n 0, 1) := by decide +kernel
theorem d_MaskEdgesModel_addPieces_16 : decode prog_8_method_15_code 16 = .ok (.getfield 16, 3) := by decide +kernel
theorem d_MaskEdgesModel_addPieces_19 : decode prog_8_method_15_code 19 = .ok (.iload_n 1, 1) := by decide +kernel
theorem d_MaskEdgesModel_addPieces_20 : decode prog_8_method_15_code 20 = .ok (.iaload, 1) := by decide +kernel
theorem d_MaskEdgesModel_addPieces_21 : decode prog_8_method_15_code 21 = .ok (.irem, 1) := by decide +kernel
theorem d_MaskEdgesModel_addPieces_22 : decode prog_8_method_15_code 22 = .ok (.iadd, 1) := by decide +kernel
theorem d_MaskEdgesModel_addPieces_23 : decode prog_8_method_15_code 23 = .ok (.istore 5, 2) := by decide +kernel
theorem d_MaskEdgesModel_addPieces_25 : decode prog_8_method_15_code 25 = .ok (.aload_n 0, 1) := by decide +kernel
theorem d_MaskEdgesModel_addPieces_26 : decode prog_8_method_15_code 26 = .ok (.iload_n 1, 1) := by decide +kernel
theorem d_MaskEdgesModel_addPieces_27 : decode prog_8_method_15_code 27 = .ok (.iload_n 2, 1) := by decide +kernel
theorem d_MaskEdgesModel_addPieces_28 : decode prog_8_method_15_code 28 = .ok (.invokevirtual 122, 3) := by decide +kernel
theorem d_MaskEdgesModel_addPieces_31 : decode prog_8_method_15_code 31 = .ok (.istore 6, 2) := by decide +kernel
theorem d_MaskEdgesModel_addPieces_33 : decode prog_8_method_15_code 33 = .ok (.aload_n 0, 1) := by decide +kernel
theorem d_MaskEdgesModel_addPieces_34 : decode prog_8_method_15_code 34 = .ok (.getfield 13, 3) := by decide +kernel
theorem d_MaskEdgesModel_addPieces_37 : decode prog_8_method_15_code 37 = .ok (.iload 4, 2) := by decide +kernel
theorem d_MaskEdgesModel_addPieces_39 : decode prog_8_method_15_code 39 = .ok (.iaload, 1) := by decide +kernel
theorem d_MaskEdgesModel_addPieces_40 : decode prog_8_method_15_code 40 = .ok (.aload_n 0, 1) := by decide +kernel
theorem d_MaskEdgesModel_addPieces_41 : decode prog_8_method_15_code 41 = .ok (.getfield 13, 3) := by decide +kernel
theorem d_MaskEdgesModel_addPieces_44 : decode prog_8_method_15_code 44 = .ok (.iload 5, 2) := by decide +kernel
theorem d_MaskEdgesModel_addPieces_46 : decode prog_8_method_15_code 46 = .ok (.iaload, 1) := by decide +kernel
theorem d_MaskEdgesModel_addPieces_47 : decode prog_8_method_15_code 47 = .ok (.if_icmp .ne 7, 3) := by decide +kernel
theorem d_MaskEdgesModel_addPieces_50 : decode prog_8_method_15_code 50 = .ok (.iconst 1, 1) := by decide +kernel
theorem d_MaskEdgesModel_addPieces_51 : decode prog_8_method_15_code 51 = .ok (.goto 4, 3) := by decide +kernel
theorem d_MaskEdgesModel_addPieces_54 : decode prog_8_method_15_code 54 = .ok (.iconst 0, 1) := by decide +kernel
theorem d_MaskEdgesModel_addPieces_55 : decode prog_8_method_15_code 55 = .ok (.istore 7, 2) := by decide +kernel
theorem d_MaskEdgesModel_addPieces_57 : decode prog_8_method_15_code 57 = .ok (.iload 7, 2) := by decide +kernel
theorem d_MaskEdgesModel_addPieces_59 : decode prog_8_method_15_code 59 = .ok (.ifCond .eq 13, 3) := by decide +kernel
theorem d_MaskEdgesModel_addPieces_62 : decode prog_8_method_15_code 62 = .ok (.aload_n 0, 1) := by decide +kernel
theorem d_MaskEdgesModel_addPieces_63 : decode prog_8_method_15_code 63 = .ok (.getfield 7, 3) := by decide +kernel
theorem d_MaskEdgesModel_addPieces_66 : decode prog_8_method_15_code 66 = .ok (.iload 4, 2) := by decide +kernel
theorem d_MaskEdgesModel_addPieces_68 : decode prog_8_method_15_code 68 = .ok (.iaload, 1) := by decide +kernel
theorem d_MaskEdgesModel_addPieces_69 : decode prog_8_method_15_code 69 = .ok (.goto 10, 3) := by decide +kernel
theorem d_MaskEdgesModel_addPieces_72 : decode prog_8_method_15_code 72 = .ok (.aload_n 0, 1) := by decide +kernel
theorem d_MaskEdgesModel_addPieces_73 : decode prog_8_method_15_code 73 = .ok (.getfield 13, 3) := by decide +kernel
theorem d_MaskEdgesModel_addPieces_76 : decode prog_8_method_15_code 76 = .ok (.iload 4, 2) := by decide +kernel
theorem d_MaskEdgesModel_addPieces_78 : decode prog_8_method_15_code 78 = .ok (.iaload, 1) := by decide +kernel
theorem d_MaskEdgesModel_addPieces_79 : decode prog_8_method_15_code 79 = .ok (.istore 8, 2) := by decide +kernel
theorem d_MaskEdgesModel_addPieces_81 : decode prog_8_method_15_code 81 = .ok (.iload 7, 2) := by decide +kernel
theorem d_MaskEdgesModel_addPieces_83 : decode prog_8_method_15_code 83 = .ok (.ifCond .eq 28, 3) := by decide +kernel
theorem d_MaskEdgesModel_addPieces_86 : decode prog_8_method_15_code 86 = .ok (.aload_n 0, 1) := by decide +kernel
theorem d_MaskEdgesModel_addPieces_87 : decode prog_8_method_15_code 87 = .ok (.getfield 7, 3) := by decide +kernel
theorem d_MaskEdgesModel_addPieces_90 : decode prog_8_method_15_code 90 = .ok (.iload 5, 2) := by decide +kernel
theorem d_MaskEdgesModel_addPieces_92 : decode prog_8_method_15_code 92 = .ok (.iaload, 1) := by decide +kernel
theorem d_MaskEdgesModel_addPieces_93 : decode prog_8_method_15_code 93 = .ok (.aload_n 0, 1) := by decide +kernel
theorem d_MaskEdgesModel_addPieces_94 : decode prog_8_method_15_code 94 = .ok (.getfield 7, 3) := by decide +kernel
theorem d_MaskEdgesModel_addPieces_97 : decode prog_8_method_15_code 97 = .ok (.iload 4, 2) := by decide +kernel
theorem d_MaskEdgesModel_addPieces_99 : decode prog_8_method_15_code 99 = .ok (.iaload, 1) := by decide +kernel
theorem d_MaskEdgesModel_addPieces_100 : decode prog_8_method_15_code 100 = .ok (.if_icmp .le 7, 3) := by decide +kernel
theorem d_MaskEdgesModel_addPieces_103 : decode prog_8_method_15_code 103 = .ok (.iconst 1, 1) := by decide +kernel
theorem d_MaskEdgesModel_addPieces_104 : decode prog_8_method_15_code 104 = .ok (.goto 29, 3) := by decide +kernel
theorem d_MaskEdgesModel_addPieces_107 : decode prog_8_method_15_code 107 = .ok (.iconst 0, 1) := by decide +kernel
theorem d_MaskEdgesModel_addPieces_108 : decode prog_8_method_15_code 108 = .ok (.goto 25, 3) := by decide +kernel
theorem d_MaskEdgesModel_addPieces_111 : decode prog_8_method_15_code 111 = .ok (.aload_n 0, 1) := by decide +kernel
theorem d_MaskEdgesModel_addPieces_112 : decode prog_8_method_15_code 112 = .ok (.getfield 13, 3) := by decide +kernel
theorem d_MaskEdgesModel_addPieces_115 : decode prog_8_method_15_code 115 = .ok (.iload 5, 2) := by decide +kernel
theorem d_MaskEdgesModel_addPieces_117 : decode prog_8_method_15_code 117 = .ok (.iaload, 1) := by decide +kernel
theorem d_MaskEdgesModel_addPieces_118 : decode prog_8_method_15_code 118 = .ok (.aload_n 0, 1) := by decide +kernel
theorem d_MaskEdgesModel_addPieces_119 : decode prog_8_method_15_code 119 = .ok (.getfield 13, 3) := by decide +kernel
theorem d_MaskEdgesModel_addPieces_122 : decode prog_8_method_15_code 122 = .ok (.iload 4, 2) := by decide +kernel
theorem d_MaskEdgesModel_addPieces_124 : decode prog_8_method_15_code 124 = .ok (.iaload, 1) := by decide +kernel
theorem d_MaskEdgesModel_addPieces_125 : decode prog_8_method_15_code 125 = .ok (.if_icmp .le 7, 3) := by decide +kernel
theorem d_MaskEdgesModel_addPieces_128 : decode prog_8_method_15_code 128 = .ok (.iconst 1, 1) := by decide +kernel
theorem d_MaskEdgesModel_addPieces_129 : decode prog_8_method_15_code 129 = .ok (.goto 4, 3) := by decide +kernel
theorem d_MaskEdgesModel_addPieces_132 : decode prog_8_method_15_code 132 = .ok (.iconst 0, 1) := by decide +kernel
theorem d_MaskEdgesModel_addPieces_133 : decode prog_8_method_15_code 133 = .ok (.istore 9, 2) := by decide +kernel
theorem d_MaskEdgesModel_addPieces_135 : decode prog_8_method_15_code 135 = .ok (.iconst 0, 1) := by decide +kernel
theorem d_MaskEdgesModel_addPieces_136 : decode prog_8_method_15_code 136 = .ok (.istore 10, 2) := by decide +kernel
theorem d_MaskEdgesModel_addPieces_138 : decode prog_8_method_15_code 138 = .ok (.iload 10, 2) := by decide +kernel
theorem d_MaskEdgesModel_addPieces_140 : decode prog_8_method_15_code 140 = .ok (.iload_n 3, 1) := by decide +kernel
theorem d_MaskEdgesModel_addPieces_141 : decode prog_8_method_15_code 141 = .ok (.if_icmp .ge 266, 3) := by decide +kernel
theorem d_MaskEdgesModel_addPieces_144 : decode prog_8_method_15_code 144 = .ok (.iload 6, 2) := by decide +kernel
theorem d_MaskEdgesModel_addPieces_146 : decode prog_8_method_15_code 146 = .ok (.iload 10, 2) := by decide +kernel
theorem d_MaskEdgesModel_addPieces_148 : decode prog_8_method_15_code 148 = .ok (.imul, 1) := by decide +kernel
theorem d_MaskEdgesModel_addPieces_149 : decode prog_8_method_15_code 149 = .ok (.iload_n 3, 1) := by decide +kernel
theorem d_MaskEdgesModel_addPieces_150 : decode prog_8_method_15_code 150 = .ok (.idiv, 1) := by decide +kernel
theorem d_MaskEdgesModel_addPieces_151 : decode prog_8_method_15_code 151 = .ok (.istore 11, 2) := by decide +kernel
theorem d_MaskEdgesModel_addPieces_153 : decode prog_8_method_15_code 153 = .ok (.iload 6, 2) := by decide +kernel
theorem d_MaskEdgesModel_addPieces_155 : decode prog_8_method_15_code 155 = .ok (.iload 10, 2) := by decide +kernel
theorem d_MaskEdgesModel_addPieces_157 : decode prog_8_method_15_code 157 = .ok (.iconst 1, 1) := by decide +kernel
theorem d_MaskEdgesModel_addPieces_158 : decode prog_8_method_15_code 158 = .ok (.iadd, 1) := by decide +kernel
theorem d_MaskEdgesModel_addPieces_159 : decode prog_8_method_15_code 159 = .ok (.imul, 1) := by decide +kernel
theorem d_MaskEdgesModel_addPieces_160 : decode prog_8_method_15_code 160 = .ok (.iload_n 3, 1) := by decide +kernel
theorem d_MaskEdgesModel_addPieces_161 : decode prog_8_method_15_code 161 = .ok (.idiv, 1) := by decide +kernel
theorem d_MaskEdgesModel_addPieces_162 : decode prog_8_method_15_code 162 = .ok (.istore 12, 2) := by decide +kernel
theorem d_MaskEdgesModel_addPieces_164 : decode prog_8_method_15_code 164 = .ok (.aload_n 0, 1) := by decide +kernel
theorem d_MaskEdgesModel_addPieces_165 : decode prog_8_method_15_code 165 = .ok (.getfield 42, 3) := by decide +kernel
theorem d_MaskEdgesModel_addPieces_168 : decode prog_8_method_15_code 168 = .ok (.aload_n 0, 1) := by decide +kernel
theorem d_MaskEdgesModel_addPieces_169 : decode prog_8_method_15_code 169 = .ok (.getfield 90, 3) := by decide +kernel
theorem d_MaskEdgesModel_addPieces_172 : decode prog_8_method_15_code 172 = .ok (.iload 7, 2) := by decide +kernel
theorem d_MaskEdgesModel_addPieces_174 : decode prog_8_method_15_code 174 = .ok (.bastore, 1) := by decide +kernel
theorem d_MaskEdgesModel_addPieces_175 : decode prog_8_method_15_code 175 = .ok (.aload_n 0, 1) := by decide +kernel
theorem d_MaskEdgesModel_addPieces_176 : decode prog_8_method_15_code 176 = .ok (.getfield 33, 3) := by decide +kernel
theorem d_MaskEdgesModel_addPieces_179 : decode prog_8_method_15_code 179 = .ok (.aload_n 0, 1) := by decide +kernel
theorem d_MaskEdgesModel_addPieces_180 : decode prog_8_method_15_code 180 = .ok (.getfield 90, 3) := by decide +kernel
theorem d_MaskEdgesModel_addPieces_183 : decode prog_8_method_15_code 183 = .ok (.iload 7, 2) := by decide +kernel
theorem d_MaskEdgesModel_addPieces_185 : decode prog_8_method_15_code 185 = .ok (.ifCond .eq 13, 3) := by decide +kernel
theorem d_MaskEdgesModel_addPieces_188 : decode prog_8_method_15_code 188 = .ok (.aload_n 0, 1) := by decide +kernel
theorem d_MaskEdgesModel_addPieces_189 : decode prog_8_method_15_code 189 = .ok (.getfield 13, 3) := by decide +kernel
theorem d_MaskEdgesModel_addPieces_192 : decode prog_8_method_15_code 192 = .ok (.iload 4, 2) := by decide +kernel
theorem d_MaskEdgesModel_addPieces_194 : decode prog_8_method_15_code 194 = .ok (.iaload, 1) := by decide +kernel
theorem d_MaskEdgesModel_addPieces_195 : decode prog_8_method_15_code 195 = .ok (.goto 10, 3) := by decide +kernel
theorem d_MaskEdgesModel_addPieces_198 : decode prog_8_method_15_code 198 = .ok (.aload_n 0, 1) := by decide +kernel
theorem d_MaskEdgesModel_addPieces_199 : decode prog_8_method_15_code 199 = .ok (.getfield 7, 3) := by decide +kernel
theorem d_MaskEdgesModel_addPieces_202 : decode prog_8_method_15_code 202 = .ok (.iload 4, 2) := by decide +kernel
theorem d_MaskEdgesModel_addPieces_204 : decode prog_8_method_15_code 204 = .ok (.iaload, 1) := by decide +kernel
theorem d_MaskEdgesModel_addPieces_205 : decode prog_8_method_15_code 205 = .ok (.iastore, 1) := by decide +kernel
theorem d_MaskEdgesModel_addPieces_206 : decode prog_8_method_15_code 206 = .ok (.aload_n 0, 1) := by decide +kernel
theorem d_MaskEdgesModel_addPieces_207 : decode prog_8_method_15_code 207 = .ok (.getfield 36, 3) := by decide +kernel
theorem d_MaskEdgesModel_addPieces_210 : decode prog_8_method_15_code 210 = .ok (.aload_n 0, 1) := by decide +kernel
theorem d_MaskEdgesModel_addPieces_211 : decode prog_8_method_15_code 211 = .ok (.getfield 90, 3) := by decide +kernel
theorem d_MaskEdgesModel_addPieces_214 : decode prog_8_method_15_code 214 = .ok (.iload 9, 2) := by decide +kernel
theorem d_MaskEdgesModel_addPieces_216 : decode prog_8_method_15_code 216 = .ok (.ifCond .eq 11, 3) := by decide +kernel
theorem d_MaskEdgesModel_addPieces_219 : decode prog_8_method_15_code 219 = .ok (.iload 8, 2) := by decide +kernel
theorem d_MaskEdgesModel_addPieces_221 : decode prog_8_method_15_code 221 = .ok (.iload 11, 2) := by decide +kernel
theorem d_MaskEdgesModel_addPieces_223 : decode prog_8_method_15_code 223 = .ok (.iadd, 1) := by decide +kernel
theorem d_MaskEdgesModel_addPieces_224 : decode prog_8_method_15_code 224 = .ok (.goto 8, 3) := by decide +kernel
theorem d_MaskEdgesModel_addPieces_227 : decode prog_8_method_15_code 227 = .ok (.iload 8, 2) := by decide +kernel
theorem d_MaskEdgesModel_addPieces_229 : decode prog_8_method_15_code 229 = .ok (.iload 12, 2) := by decide +kernel
theorem d_MaskEdgesModel_addPieces_231 : decode prog_8_method_15_code 231 = .ok (.isub, 1) := by decide +kernel
theorem d_MaskEdgesModel_addPieces_232 : decode prog_8_method_15_code 232 = .ok (.iastore, 1) := by decide +kernel
theorem d_MaskEdgesModel_addPieces_233 : decode prog_8_method_15_code 233 = .ok (.aload_n 0, 1) := by decide +kernel
theorem d_MaskEdgesModel_addPieces_234 : decode prog_8_method_15_code 234 = .ok (.getfield 39, 3) := by decide +kernel
theorem d_MaskEdgesModel_addPieces_237 : decode prog_8_method_15_code 237 = .ok (.aload_n 0, 1) := by decide +kernel
theorem d_MaskEdgesModel_addPieces_238 : decode prog_8_method_15_code 238 = .ok (.getfield 90, 3) := by decide +kernel
theorem d_MaskEdgesModel_addPieces_241 : decode prog_8_method_15_code 241 = .ok (.iload 9, 2) := by decide +kernel
theorem d_MaskEdgesModel_addPieces_243 : decode prog_8_method_15_code 243 = .ok (.ifCond .eq 11, 3) := by decide +kernel
theorem d_MaskEdgesModel_addPieces_246 : decode prog_8_method_15_code 246 = .ok (.iload 8, 2) := by decide +kernel
theorem d_MaskEdgesModel_addPieces_248 : decode prog_8_method_15_code 248 = .ok (.iload 12, 2) := by decide +kernel
theorem d_MaskEdgesModel_addPieces_250 : decode prog_8_method_15_code 250 = .ok (.iadd, 1) := by decide +kernel
theorem d_MaskEdgesModel_addPieces_251 : decode prog_8_method_15_code 251 = .ok (.goto 8, 3) := by decide +kernel
theorem d_MaskEdgesModel_addPieces_254 : decode prog_8_method_15_code 254 = .ok (.iload 8, 2) := by decide +kernel
theorem d_MaskEdgesModel_addPieces_256 : decode prog_8_method_15_code 256 = .ok (.iload 11, 2) := by decide +kernel
theorem d_MaskEdgesModel_addPieces_258 : decode prog_8_method_15_code 258 = .ok (.isub, 1) := by decide +kernel
theorem d_MaskEdgesModel_addPieces_259 : decode prog_8_method_15_code 259 = .ok (.iastore, 1) := by decide +kernel
theorem d_MaskEdgesModel_addPieces_260 : decode prog_8_method_15_code 260 = .ok (.aload_n 0, 1) := by decide +kernel
theorem d_MaskEdgesModel_addPieces_261 : decode prog_8_method_15_code 261 = .ok (.getfield 45, 3) := by decide +kernel
theorem d_MaskEdgesModel_addPieces_264 : decode prog_8_method_15_code 264 = .ok (.aload_n 0, 1) := by decide +kernel
theorem d_MaskEdgesModel_addPieces_265 : decode prog_8_method_15_code 265 = .ok (.getfield 90, 3) := by decide +kernel
theorem d_MaskEdgesModel_addPieces_268 : decode prog_8_method_15_code 268 = .ok (.iload 10, 2) := by decide +kernel
theorem d_MaskEdgesModel_addPieces_270 : decode prog_8_method_15_code 270 = .ok (.ifCond .ne 7, 3) := by decide +kernel
theorem d_MaskEdgesModel_addPieces_273 : decode prog_8_method_15_code 273 = .ok (.iconst 1, 1) := by decide +kernel
theorem d_MaskEdgesModel_addPieces_274 : decode prog_8_method_15_code 274 = .ok (.goto 4, 3) := by decide +kernel
theorem d_MaskEdgesModel_addPieces_277 : decode prog_8_method_15_code 277 = .ok (.iconst 0, 1) := by decide +kernel
theorem d_MaskEdgesModel_addPieces_278 : decode prog_8_method_15_code 278 = .ok (.bastore, 1) := by decide +kernel
theorem d_MaskEdgesModel_addPieces_279 : decode prog_8_method_15_code 279 = .ok (.aload_n 0, 1) := by decide +kernel
theorem d_MaskEdgesModel_addPieces_280 : decode prog_8_method_15_code 280 = .ok (.getfield 48, 3) := by decide +kernel
theorem d_MaskEdgesModel_addPieces_283 : decode prog_8_method_15_code 283 = .ok (.aload_n 0, 1) := by decide +kernel
theorem d_MaskEdgesModel_addPieces_284 : decode prog_8_method_15_code 284 = .ok (.getfield 90, 3) := by decide +kernel
theorem d_MaskEdgesModel_addPieces_287 : decode prog_8_method_15_code 287 = .ok (.iload 10, 2) := by decide +kernel
theorem d_MaskEdgesModel_addPieces_289 : decode prog_8_method_15_code 289 = .ok (.iload_n 3, 1) := by decide +kernel
theorem d_MaskEdgesModel_addPieces_290 : decode prog_8_method_15_code 290 = .ok (.iconst 1, 1) := by decide +kernel
theorem d_MaskEdgesModel_addPieces_291 : decode prog_8_method_15_code 291 = .ok (.isub, 1) := by decide +kernel
theorem d_MaskEdgesModel_addPieces_292 : decode prog_8_method_15_code 292 = .ok (.if_icmp .ne 7, 3) := by decide +kernel
theorem d_MaskEdgesModel_addPieces_295 : decode prog_8_method_15_code 295 = .ok (.iconst 1, 1) := by decide +kernel
theorem d_MaskEdgesModel_addPieces_296 : decode prog_8_method_15_code 296 = .ok (.goto 4, 3) := by decide +kernel
theorem d_MaskEdgesModel_addPieces_299 : decode prog_8_method_15_code 299 = .ok (.iconst 0, 1) := by decide +kernel
theorem d_MaskEdgesModel_addPieces_300 : decode prog_8_method_15_code 300 = .ok (.bastore, 1) := by decide +kernel
theorem d_MaskEdgesModel_addPieces_301 : decode prog_8_method_15_code 301 = .ok (.aload_n 0, 1) := by decide +kernel
theorem d_MaskEdgesModel_addPieces_302 : decode prog_8_method_15_code 302 = .ok (.getfield 54, 3) := by decide +kernel
theorem d_MaskEdgesModel_addPieces_305 : decode prog_8_method_15_code 305 = .ok (.aload_n 0, 1) := by decide +kernel
theorem d_MaskEdgesModel_addPieces_306 : decode prog_8_method_15_code 306 = .ok (.getfield 90, 3) := by decide +kernel
theorem d_MaskEdgesModel_addPieces_309 : decode prog_8_method_15_code 309 = .ok (.iconst 0, 1) := by decide +kernel
theorem d_MaskEdgesModel_addPieces_310 : decode prog_8_method_15_code 310 = .ok (.iastore, 1) := by decide +kernel
theorem d_MaskEdgesModel_addPieces_311 : decode prog_8_method_15_code 311 = .ok (.aload_n 0, 1) := by decide +kernel
theorem d_MaskEdgesModel_addPieces_312 : decode prog_8_method_15_code 312 = .ok (.iload_n 1, 1) := by decide +kernel
theorem d_MaskEdgesModel_addPieces_313 : decode prog_8_method_15_code 313 = .ok (.aload_n 0, 1) := by decide +kernel
theorem d_MaskEdgesModel_addPieces_314 : decode prog_8_method_15_code 314 = .ok (.aload_n 0, 1) := by decide +kernel
theorem d_MaskEdgesModel_addPieces_315 : decode prog_8_method_15_code 315 = .ok (.getfield 90, 3) := by decide +kernel
theorem d_MaskEdgesModel_addPieces_318 : decode prog_8_method_15_code 318 = .ok (.iconst 0, 1) := by decide +kernel
theorem d_MaskEdgesModel_addPieces_319 : decode prog_8_method_15_code 319 = .ok (.invokevirtual 126, 3) := by decide +kernel
theorem d_MaskEdgesModel_addPieces_322 : decode prog_8_method_15_code 322 = .ok (.aload_n 0, 1) := by decide +kernel
theorem d_MaskEdgesModel_addPieces_323 : decode prog_8_method_15_code 323 = .ok (.aload_n 0, 1) := by decide +kernel
theorem d_MaskEdgesModel_addPieces_324 : decode prog_8_method_15_code 324 = .ok (.getfield 90, 3) := by decide +kernel
theorem d_MaskEdgesModel_addPieces_327 : decode prog_8_method_15_code 327 = .ok (.iconst 0, 1) := by decide +kernel
theorem d_MaskEdgesModel_addPieces_328 : decode prog_8_method_15_code 328 = .ok (.invokevirtual 129, 3) := by decide +kernel
theorem d_MaskEdgesModel_addPieces_331 : decode prog_8_method_15_code 331 = .ok (.invokevirtual 105, 3) := by decide +kernel
theorem d_MaskEdgesModel_addPieces_334 : decode prog_8_method_15_code 334 = .ok (.istore 13, 2) := by decide +kernel
theorem d_MaskEdgesModel_addPieces_336 : decode prog_8_method_15_code 336 = .ok (.aload_n 0, 1) := by decide +kernel
theorem d_MaskEdgesModel_addPieces_337 : decode prog_8_method_15_code 337 = .ok (.iload_n 1, 1) := by decide +kernel
theorem d_MaskEdgesModel_addPieces_338 : decode prog_8_method_15_code 338 = .ok (.aload_n 0, 1) := by decide +kernel
theorem d_MaskEdgesModel_addPieces_339 : decode prog_8_method_15_code 339 = .ok (.aload_n 0, 1) := by decide +kernel
theorem d_MaskEdgesModel_addPieces_340 : decode prog_8_method_15_code 340 = .ok (.getfield 90, 3) := by decide +kernel
theorem d_MaskEdgesModel_addPieces_343 : decode prog_8_method_15_code 343 = .ok (.iconst (-1), 1) := by decide +kernel
theorem d_MaskEdgesModel_addPieces_344 : decode prog_8_method_15_code 344 = .ok (.invokevirtual 126, 3) := by decide +kernel
theorem d_MaskEdgesModel_addPieces_347 : decode prog_8_method_15_code 347 = .ok (.aload_n 0, 1) := by decide +kernel
theorem d_MaskEdgesModel_addPieces_348 : decode prog_8_method_15_code 348 = .ok (.aload_n 0, 1) := by decide +kernel
theorem d_MaskEdgesModel_addPieces_349 : decode prog_8_method_15_code 349 = .ok (.getfield 90, 3) := by decide +kernel
theorem d_MaskEdgesModel_addPieces_352 : decode prog_8_method_15_code 352 = .ok (.iconst (-1), 1) := by decide +kernel
theorem d_MaskEdgesModel_addPieces_353 : decode prog_8_method_15_code 353 = .ok (.invokevirtual 129, 3) := by decide +kernel
theorem d_MaskEdgesModel_addPieces_356 : decode prog_8_method_15_code 356 = .ok (.invokevirtual 105, 3) := by decide +kernel
theorem d_MaskEdgesModel_addPieces_359 : decode prog_8_method_15_code 359 = .ok (.istore 14, 2) := by decide +kernel
theorem d_MaskEdgesModel_addPieces_361 : decode prog_8_method_15_code 361 = .ok (.aload_n 0, 1) := by decide +kernel
theorem d_MaskEdgesModel_addPieces_362 : decode prog_8_method_15_code 362 = .ok (.getfield 51, 3) := by decide +kernel
theorem d_MaskEdgesModel_addPieces_365 : decode prog_8_method_15_code 365 = .ok (.aload_n 0, 1) := by decide +kernel
theorem d_MaskEdgesModel_addPieces_366 : decode prog_8_method_15_code 366 = .ok (.getfield 90, 3) := by decide +kernel
theorem d_MaskEdgesModel_addPieces_369 : decode prog_8_method_15_code 369 = .ok (.iload 13, 2) := by decide +kernel
theorem d_MaskEdgesModel_addPieces_371 : decode prog_8_method_15_code 371 = .ok (.iload 14, 2) := by decide +kernel
theorem d_MaskEdgesModel_addPieces_373 : decode prog_8_method_15_code 373 = .ok (.if_icmp .ne 7, 3) := by decide +kernel
theorem d_MaskEdgesModel_addPieces_376 : decode prog_8_method_15_code 376 = .ok (.iconst 0, 1) := by decide +kernel
theorem d_MaskEdgesModel_addPieces_377 : decode prog_8_method_15_code 377 = .ok (.goto 13, 3) := by decide +kernel
theorem d_MaskEdgesModel_addPieces_380 : decode prog_8_method_15_code 380 = .ok (.iload 14, 2) := by decide +kernel
theorem d_MaskEdgesModel_addPieces_382 : decode prog_8_method_15_code 382 = .ok (.ifCond .eq 7, 3) := by decide +kernel
theorem d_MaskEdgesModel_addPieces_385 : decode prog_8_method_15_code 385 = .ok (.iconst 1, 1) := by decide +kernel
theorem d_MaskEdgesModel_addPieces_386 : decode prog_8_method_15_code 386 = .ok (.goto 4, 3) := by decide +kernel
theorem d_MaskEdgesModel_addPieces_389 : decode prog_8_method_15_code 389 = .ok (.iconst (-1), 1) := by decide +kernel
theorem d_MaskEdgesModel_addPieces_390 : decode prog_8_method_15_code 390 = .ok (.iastore, 1) := by decide +kernel
theorem d_MaskEdgesModel_addPieces_391 : decode prog_8_method_15_code 391 = .ok (.aload_n 0, 1) := by decide +kernel
theorem d_MaskEdgesModel_addPieces_392 : decode prog_8_method_15_code 392 = .ok (.dup, 1) := by decide +kernel
theorem d_MaskEdgesModel_addPieces_393 : decode prog_8_method_15_code 393 = .ok (.getfield 90, 3) := by decide +kernel
theorem d_MaskEdgesModel_addPieces_396 : decode prog_8_method_15_code 396 = .ok (.iconst 1, 1) := by decide +kernel
theorem d_MaskEdgesModel_addPieces_397 : decode prog_8_method_15_code 397 = .ok (.iadd, 1) := by decide +kernel
theorem d_MaskEdgesModel_addPieces_398 : decode prog_8_method_15_code 398 = .ok (.putfield 90, 3) := by decide +kernel
theorem d_MaskEdgesModel_addPieces_401 : decode prog_8_method_15_code 401 = .ok (.iinc 10 1, 3) := by decide +kernel
theorem d_MaskEdgesModel_addPieces_404 : decode prog_8_method_15_code 404 = .ok (.goto (-266), 3) := by decide +kernel
theorem d_MaskEdgesModel_addPieces_407 : decode prog_8_method_15_code 407 = .ok (.return_, 1) := by decide +kernel
theorem d_MaskEdgesModel_cut_0 : decode prog_8_method_16_code 0 = .ok (.iload_n 1, 1) := by decide +kernel
theorem d_MaskEdgesModel_cut_1 : decode prog_8_method_16_code 1 = .ok (.i2l, 1) := by decide +kernel
theorem d_MaskEdgesModel_cut_2 : decode prog_8_method_16_code 2 = .ok (.lconst 1, 1) := by decide +kernel
theorem d_MaskEdgesModel_cut_3 : decode prog_8_method_16_code 3 = .ok (.ldc2_w 96, 3) := by decide +kernel
theorem d_MaskEdgesModel_cut_6 : decode prog_8_method_16_code 6 = .ok (.invokestatic 86, 3) := by decide +kernel
theorem d_MaskEdgesModel_cut_9 : decode prog_8_method_16_code 9 = .ok (.ifCond .ne 6, 3) := by decide +kernel
theorem d_MaskEdgesModel_cut_12 : decode prog_8_method_16_code 12 = .ok (.bipush (-2), 2) := by decide +kernel
theorem d_MaskEdgesModel_cut_14 : decode prog_8_method_16_code 14 = .ok (.ireturn, 1) := by decide +kernel
theorem d_MaskEdgesModel_cut_15 : decode prog_8_method_16_code 15 = .ok (.aload_n 0, 1) := by decide +kernel
theorem d_MaskEdgesModel_cut_16 : decode prog_8_method_16_code 16 = .ok (.invokevirtual 132, 3) := by decide +kernel
theorem d_MaskEdgesModel_cut_19 : decode prog_8_method_16_code 19 = .ok (.ifCond .ne 6, 3) := by decide +kernel
theorem d_MaskEdgesModel_cut_22 : decode prog_8_method_16_code 22 = .ok (.bipush (-3), 2) := by decide +kernel
theorem d_MaskEdgesModel_cut_24 : decode prog_8_method_16_code 24 = .ok (.ireturn, 1) := by decide +kernel
theorem d_MaskEdgesModel_cut_25 : decode prog_8_method_16_code 25 = .ok (.iconst 0, 1) := by decide +kernel
theorem d_MaskEdgesModel_cut_26 : decode prog_8_method_16_code 26 = .ok (.istore_n 2, 1) := by decide +kernel
theorem d_MaskEdgesModel_cut_27 : decode prog_8_method_16_code 27 = .ok (.iconst 0, 1) := by decide +kernel
theorem d_MaskEdgesModel_cut_28 : decode prog_8_method_16_code 28 = .ok (.istore_n 3, 1) := by decide +kernel
theorem d_MaskEdgesModel_cut_29 : decode prog_8_method_16_code 29 = .ok (.iload_n 3, 1) := by decide +kernel
theorem d_MaskEdgesModel_cut_30 : decode prog_8_method_16_code 30 = .ok (.aload_n 0, 1) := by decide +kernel
theorem d_MaskEdgesModel_cut_31 : decode prog_8_method_16_code 31 = .ok (.getfield 93, 3) := by decide +kernel
theorem d_MaskEdgesModel_cut_34 : decode prog_8_method_16_code 34 = .ok (.if_icmp .ge 54, 3) := by decide +kernel
theorem d_MaskEdgesModel_cut_37 : decode prog_8_method_16_code 37 = .ok (.iconst 0, 1) := by decide +kernel
theorem d_MaskEdgesModel_cut_38 : decode prog_8_method_16_code 38 = .ok (.istore 4, 2) := by decide +kernel
theorem d_MaskEdgesModel_cut_40 : decode prog_8_method_16_code 40 = .ok (.iload 4, 2) := by decide +kernel
theorem d_MaskEdgesModel_cut_42 : decode prog_8_method_16_code 42 = .ok (.aload_n 0, 1) := by decide +kernel
theorem d_MaskEdgesModel_cut_43 : decode prog_8_method_16_code 43 = .ok (.getfield 16, 3) := by decide +kernel
theorem d_MaskEdgesModel_cut_46 : decode prog_8_method_16_code 46 = .ok (.iload_n 3, 1) := by decide +kernel
theorem d_MaskEdgesModel_cut_47 : decode prog_8_method_16_code 47 = .ok (.iaload, 1) := by decide +kernel
theorem d_MaskEdgesModel_cut_48 : decode prog_8_method_16_code 48 = .ok (.if_icmp .ge 34, 3) := by decide +kernel
theorem d_MaskEdgesModel_cut_51 : decode prog_8_method_16_code 51 = .ok (.aload_n 0, 1) := by decide +kernel
theorem d_MaskEdgesModel_cut_52 : decode prog_8_method_16_code 52 = .ok (.getfield 19, 3) := by decide +kernel
theorem d_MaskEdgesModel_cut_55 : decode prog_8_method_16_code 55 = .ok (.iload_n 3, 1) := by decide +kernel
theorem d_MaskEdgesModel_cut_56 : decode prog_8_method_16_code 56 = .ok (.baload, 1) := by decide +kernel
theorem d_MaskEdgesModel_cut_57 : decode prog_8_method_16_code 57 = .ok (.ifCond .eq 25, 3) := by decide +kernel
theorem d_MaskEdgesModel_cut_60 : decode prog_8_method_16_code 60 = .ok (.iload_n 2, 1) := by decide +kernel
theorem d_MaskEdgesModel_cut_61 : decode prog_8_method_16_code 61 = .ok (.aload_n 0, 1) := by decide +kernel
theorem d_MaskEdgesModel_cut_62 : decode prog_8_method_16_code 62 = .ok (.iload_n 3, 1) := by decide +kernel
theorem d_MaskEdgesModel_cut_63 : decode prog_8_method_16_code 63 = .ok (.iload 4, 2) := by decide +kernel
theorem d_MaskEdgesModel_cut_65 : decode prog_8_method_16_code 65 = .ok (.invokevirtual 122, 3) := by decide +kernel
theorem d_MaskEdgesModel_cut_68 : decode prog_8_method_16_code 68 = .ok (.iload_n 1, 1) := by decide +kernel
theorem d_MaskEdgesModel_cut_69 : decode prog_8_method_16_code 69 = .ok (.iadd, 1) := by decide +kernel
theorem d_MaskEdgesModel_cut_70 : decode prog_8_method_16_code 70 = .ok (.iconst 1, 1) := by decide +kernel
theorem d_MaskEdgesModel_cut_71 : decode prog_8_method_16_code 71 = .ok (.isub, 1) := by decide +kernel
theorem d_MaskEdgesModel_cut_72 : decode prog_8_method_16_code 72 = .ok (.iload_n 1, 1) := by decide +kernel
theorem d_MaskEdgesModel_cut_73 : decode prog_8_method_16_code 73 = .ok (.idiv, 1) := by decide +kernel
theorem d_MaskEdgesModel_cut_74 : decode prog_8_method_16_code 74 = .ok (.iadd, 1) := by decide +kernel
theorem d_MaskEdgesModel_cut_75 : decode prog_8_method_16_code 75 = .ok (.istore_n 2, 1) := by decide +kernel
theorem d_MaskEdgesModel_cut_76 : decode prog_8_method_16_code 76 = .ok (.iinc 4 1, 3) := by decide +kernel
theorem d_MaskEdgesModel_cut_79 : decode prog_8_method_16_code 79 = .ok (.goto (-39), 3) := by decide +kernel
theorem d_MaskEdgesModel_cut_82 : decode prog_8_method_16_code 82 = .ok (.iinc 3 1, 3) := by decide +kernel
theorem d_MaskEdgesModel_cut_85 : decode prog_8_method_16_code 85 = .ok (.goto (-56), 3) := by decide +kernel
theorem d_MaskEdgesModel_cut_88 : decode prog_8_method_16_code 88 = .ok (.iload_n 2, 1) := by decide +kernel
theorem d_MaskEdgesModel_cut_89 : decode prog_8_method_16_code 89 = .ok (.bipush 120, 2) := by decide +kernel
theorem d_MaskEdgesModel_cut_91 : decode prog_8_method_16_code 91 = .ok (.if_icmp .le 6, 3) := by decide +kernel
theorem d_MaskEdgesModel_cut_94 : decode prog_8_method_16_code 94 = .ok (.bipush (-4), 2) := by decide +kernel
theorem d_MaskEdgesModel_cut_96 : decode prog_8_method_16_code 96 = .ok (.ireturn, 1) := by decide +kernel
theorem d_MaskEdgesModel_cut_97 : decode prog_8_method_16_code 97 = .ok (.aload_n 0, 1) := by decide +kernel
theorem d_MaskEdgesModel_cut_98 : decode prog_8_method_16_code 98 = .ok (.iconst 0, 1) := by decide +kernel
theorem d_MaskEdgesModel_cut_99 : decode prog_8_method_16_code 99 = .ok (.putfield 90, 3) := by decide +kernel
theorem d_MaskEdgesModel_cut_102 : decode prog_8_method_16_code 102 = .ok (.iconst 0, 1) := by decide +kernel
theorem d_MaskEdgesModel_cut_103 : decode prog_8_method_16_code 103 = .ok (.istore_n 3, 1) := by decide +kernel
theorem d_MaskEdgesModel_cut_104 : decode prog_8_method_16_code 104 = .ok (.iload_n 3, 1) := by decide +kernel
theorem d_MaskEdgesModel_cut_105 : decode prog_8_method_16_code 105 = .ok (.aload_n 0, 1) := by decide +kernel
theorem d_MaskEdgesModel_cut_106 : decode prog_8_method_16_code 106 = .ok (.getfield 93, 3) := by decide +kernel
theorem d_MaskEdgesModel_cut_109 : decode prog_8_method_16_code 109 = .ok (.if_icmp .ge 58, 3) := by decide +kernel
theorem d_MaskEdgesModel_cut_112 : decode prog_8_method_16_code 112 = .ok (.iconst 0, 1) := by decide +kernel
theorem d_MaskEdgesModel_cut_113 : decode prog_8_method_16_code 113 = .ok (.istore 4, 2) := by decide +kernel
theorem d_MaskEdgesModel_cut_115 : decode prog_8_method_16_code 115 = .ok (.iload 4, 2) := by decide +kernel
theorem d_MaskEdgesModel_cut_117 : decode prog_8_method_16_code 117 = .ok (.aload_n 0, 1) := by decide +kernel
theorem d_MaskEdgesModel_cut_118 : decode prog_8_method_16_code 118 = .ok (.getfield 16, 3) := by decide +kernel
theorem d_MaskEdgesModel_cut_121 : decode prog_8_method_16_code 121 = .ok (.iload_n 3, 1) := by decide +kernel
theorem d_MaskEdgesModel_cut_122 : decode prog_8_method_16_code 122 = .ok (.iaload, 1) := by decide +kernel
theorem d_MaskEdgesModel_cut_123 : decode prog_8_method_16_code 123 = .ok (.if_icmp .ge 38, 3) := by decide +kernel
theorem d_MaskEdgesModel_cut_126 : decode prog_8_method_16_code 126 = .ok (.aload_n 0, 1) := by decide +kernel
theorem d_MaskEdgesModel_cut_127 : decode prog_8_method_16_code 127 = .ok (.getfield 19, 3) := by decide +kernel
theorem d_MaskEdgesModel_cut_130 : decode prog_8_method_16_code 130 = .ok (.iload_n 3, 1) := by decide +kernel
theorem d_MaskEdgesModel_cut_131 : decode prog_8_method_16_code 131 = .ok (.baload, 1) := by decide +kernel
theorem d_MaskEdgesModel_cut_132 : decode prog_8_method_16_code 132 = .ok (.ifCond .eq 29, 3) := by decide +kernel
theorem d_MaskEdgesModel_cut_135 : decode prog_8_method_16_code 135 = .ok (.aload_n 0, 1) := by decide +kernel
theorem d_MaskEdgesModel_cut_136 : decode prog_8_method_16_code 136 = .ok (.iload_n 3, 1) := by decide +kernel
theorem d_MaskEdgesModel_cut_137 : decode prog_8_method_16_code 137 = .ok (.iload 4, 2) := by decide +kernel
theorem d_MaskEdgesModel_cut_139 : decode prog_8_method_16_code 139 = .ok (.aload_n 0, 1) := by decide +kernel
theorem d_MaskEdgesModel_cut_140 : decode prog_8_method_16_code 140 = .ok (.iload_n 3, 1) := by decide +kernel
theorem d_MaskEdgesModel_cut_141 : decode prog_8_method_16_code 141 = .ok (.iload 4, 2) := by decide +kernel
theorem d_MaskEdgesModel_cut_143 : decode prog_8_method_16_code 143 = .ok (.invokevirtual 122, 3) := by decide +kernel
theorem d_MaskEdgesModel_cut_146 : decode prog_8_method_16_code 146 = .ok (.iload_n 1, 1) := by decide +kernel
theorem d_MaskEdgesModel_cut_147 : decode prog_8_method_16_code 147 = .ok (.iadd, 1) := by decide +kernel
theorem d_MaskEdgesModel_cut_148 : decode prog_8_method_16_code 148 = .ok (.iconst 1, 1) := by decide +kernel
theorem d_MaskEdgesModel_cut_149 : decode prog_8_method_16_code 149 = .ok (.isub, 1) := by decide +kernel
theorem d_MaskEdgesModel_cut_150 : decode prog_8_method_16_code 150 = .ok (.iload_n 1, 1) := by decide +kernel
theorem d_MaskEdgesModel_cut_151 : decode prog_8_method_16_code 151 = .ok (.idiv, 1) := by decide +kernel
theorem d_MaskEdgesModel_cut_152 : decode prog_8_method_16_code 152 = .ok (.invokevirtual 136, 3) := by decide +kernel
theorem d_MaskEdgesModel_cut_155 : decode prog_8_method_16_code 155 = .ok (.iinc 4 1, 3) := by decide +kernel
theorem d_MaskEdgesModel_cut_158 : decode prog_8_method_16_code 158 = .ok (.goto (-43), 3) := by decide +kernel
theorem d_MaskEdgesModel_cut_161 : decode prog_8_method_16_code 161 = .ok (.iinc 3 1, 3) := by decide +kernel
theorem d_MaskEdgesModel_cut_164 : decode prog_8_method_16_code 164 = .ok (.goto (-60), 3) := by decide +kernel
theorem d_MaskEdgesModel_cut_167 : decode prog_8_method_16_code 167 = .ok (.aload_n 0, 1) := by decide +kernel
theorem d_MaskEdgesModel_cut_168 : decode prog_8_method_16_code 168 = .ok (.getfield 90, 3) := by decide +kernel
theorem d_MaskEdgesModel_cut_171 : decode prog_8_method_16_code 171 = .ok (.ireturn, 1) := by decide +kernel
theorem d_MaskEdgesModel_put_0 : decode prog_8_method_17_code 0 = .ok (.iload_n 1, 1) := by decide +kernel
theorem d_MaskEdgesModel_put_1 : decode prog_8_method_17_code 1 = .ok (.iload_n 2, 1) := by decide +kernel
theorem d_MaskEdgesModel_put_2 : decode prog_8_method_17_code 2 = .ok (.invokestatic 102, 3) := by decide +kernel
theorem d_MaskEdgesModel_put_5 : decode prog_8_method_17_code 5 = .ok (.ifCond .eq 15, 3) := by decide +kernel
theorem d_MaskEdgesModel_put_8 : decode prog_8_method_17_code 8 = .ok (.aload_n 0, 1) := by decide +kernel
theorem d_MaskEdgesModel_put_9 : decode prog_8_method_17_code 9 = .ok (.getfield 72, 3) := by decide +kernel
theorem d_MaskEdgesModel_put_12 : decode prog_8_method_17_code 12 = .ok (.bipush 48, 2) := by decide +kernel
theorem d_MaskEdgesModel_put_14 : decode prog_8_method_17_code 14 = .ok (.iload_n 2, 1) := by decide +kernel
theorem d_MaskEdgesModel_put_15 : decode prog_8_method_17_code 15 = .ok (.imul, 1) := by decide +kernel
theorem d_MaskEdgesModel_put_16 : decode prog_8_method_17_code 16 = .ok (.iload_n 1, 1) := by decide +kernel
theorem d_MaskEdgesModel_put_17 : decode prog_8_method_17_code 17 = .ok (.iadd, 1) := by decide +kernel
theorem d_MaskEdgesModel_put_18 : decode prog_8_method_17_code 18 = .ok (.iload_n 3, 1) := by decide +kernel
theorem d_MaskEdgesModel_put_19 : decode prog_8_method_17_code 19 = .ok (.bastore, 1) := by decide +kernel
theorem d_MaskEdgesModel_put_20 : decode prog_8_method_17_code 20 = .ok (.return_, 1) := by decide +kernel
theorem d_MaskEdgesModel_putPiece_0 : decode prog_8_method_18_code 0 = .ok (.aload_n 0, 1) := by decide +kernel
theorem d_MaskEdgesModel_putPiece_1 : decode prog_8_method_18_code 1 = .ok (.getfield 54, 3) := by decide +kernel
theorem d_MaskEdgesModel_putPiece_4 : decode prog_8_method_18_code 4 = .ok (.iload_n 1, 1) := by decide +kernel
theorem d_MaskEdgesModel_putPiece_5 : decode prog_8_method_18_code 5 = .ok (.iaload, 1) := by decide +kernel
theorem d_MaskEdgesModel_putPiece_6 : decode prog_8_method_18_code 6 = .ok (.ifCond .ge 13, 3) := by decide +kernel
theorem d_MaskEdgesModel_putPiece_9 : decode prog_8_method_18_code 9 = .ok (.aload_n 0, 1) := by decide +kernel
theorem d_MaskEdgesModel_putPiece_10 : decode prog_8_method_18_code 10 = .ok (.getfield 54, 3) := by decide +kernel
theorem d_MaskEdgesModel_putPiece_13 : decode prog_8_method_18_code 13 = .ok (.iload_n 1, 1) := by decide +kernel
theorem d_MaskEdgesModel_putPiece_14 : decode prog_8_method_18_code 14 = .ok (.iaload, 1) := by decide +kernel
theorem d_MaskEdgesModel_putPiece_15 : decode prog_8_method_18_code 15 = .ok (.ineg, 1) := by decide +kernel
theorem d_MaskEdgesModel_putPiece_16 : decode prog_8_method_18_code 16 = .ok (.goto 9, 3) := by decide +kernel
theorem d_MaskEdgesModel_putPiece_19 : decode prog_8_method_18_code 19 = .ok (.aload_n 0, 1) := by decide +kernel
theorem d_MaskEdgesModel_putPiece_20 : decode prog_8_method_18_code 20 = .ok (.getfield 54, 3) := by decide +kernel
theorem d_MaskEdgesModel_putPiece_23 : decode prog_8_method_18_code 23 = .ok (.iload_n 1, 1) := by decide +kernel
theorem d_MaskEdgesModel_putPiece_24 : decode prog_8_method_18_code 24 = .ok (.iaload, 1) := by decide +kernel
theorem d_MaskEdgesModel_putPiece_25 : decode prog_8_method_18_code 25 = .ok (.istore_n 2, 1) := by decide +kernel
theorem d_MaskEdgesModel_putPiece_26 : decode prog_8_method_18_code 26 = .ok (.iconst 0, 1) := by decide +kernel
theorem d_MaskEdgesModel_putPiece_27 : decode prog_8_method_18_code 27 = .ok (.istore_n 3, 1) := by decide +kernel
theorem d_MaskEdgesModel_putPiece_28 : decode prog_8_method_18_code 28 = .ok (.iload_n 3, 1) := by decide +kernel
theorem d_MaskEdgesModel_putPiece_29 : decode prog_8_method_18_code 29 = .ok (.iload_n 2, 1) := by decide +kernel
theorem d_MaskEdgesModel_putPiece_30 : decode prog_8_method_18_code 30 = .ok (.if_icmp .ge 159, 3) := by decide +kernel
theorem d_MaskEdgesModel_putPiece_33 : decode prog_8_method_18_code 33 = .ok (.aload_n 0, 1) := by decide +kernel
theorem d_MaskEdgesModel_putPiece_34 : decode prog_8_method_18_code 34 = .ok (.getfield 51, 3) := by decide +kernel
theorem d_MaskEdgesModel_putPiece_37 : decode prog_8_method_18_code 37 = .ok (.iload_n 1, 1) := by decide +kernel
theorem d_MaskEdgesModel_putPiece_38 : decode prog_8_method_18_code 38 = .ok (.iaload, 1) := by decide +kernel
theorem d_MaskEdgesModel_putPiece_39 : decode prog_8_method_18_code 39 = .ok (.ifCond .eq 150, 3) := by decide +kernel
theorem d_MaskEdgesModel_putPiece_42 : decode prog_8_method_18_code 42 = .ok (.aload_n 0, 1) := by decide +kernel
theorem d_MaskEdgesModel_putPiece_43 : decode prog_8_method_18_code 43 = .ok (.getfield 51, 3) := by decide +kernel
theorem d_MaskEdgesModel_putPiece_46 : decode prog_8_method_18_code 46 = .ok (.iload_n 1, 1) := by decide +kernel
theorem d_MaskEdgesModel_putPiece_47 : decode prog_8_method_18_code 47 = .ok (.iaload, 1) := by decide +kernel
theorem d_MaskEdgesModel_putPiece_48 : decode prog_8_method_18_code 48 = .ok (.ifCond .le 7, 3) := by decide +kernel
theorem d_MaskEdgesModel_putPiece_51 : decode prog_8_method_18_code 51 = .ok (.iconst 1, 1) := by decide +kernel
theorem d_MaskEdgesModel_putPiece_52 : decode prog_8_method_18_code 52 = .ok (.goto 4, 3) := by decide +kernel
theorem d_MaskEdgesModel_putPiece_55 : decode prog_8_method_18_code 55 = .ok (.iconst 0, 1) := by decide +kernel
theorem d_MaskEdgesModel_putPiece_56 : decode prog_8_method_18_code 56 = .ok (.aload_n 0, 1) := by decide +kernel
theorem d_MaskEdgesModel_putPiece_57 : decode prog_8_method_18_code 57 = .ok (.getfield 54, 3) := by decide +kernel
theorem d_MaskEdgesModel_putPiece_60 : decode prog_8_method_18_code 60 = .ok (.iload_n 1, 1) := by decide +kernel
theorem d_MaskEdgesModel_putPiece_61 : decode prog_8_method_18_code 61 = .ok (.iaload, 1) := by decide +kernel
theorem d_MaskEdgesModel_putPiece_62 : decode prog_8_method_18_code 62 = .ok (.ifCond .le 7, 3) := by decide +kernel
theorem d_MaskEdgesModel_putPiece_65 : decode prog_8_method_18_code 65 = .ok (.iconst 1, 1) := by decide +kernel
theorem d_MaskEdgesModel_putPiece_66 : decode prog_8_method_18_code 66 = .ok (.goto 4, 3) := by decide +kernel
theorem d_MaskEdgesModel_putPiece_69 : decode prog_8_method_18_code 69 = .ok (.iconst 0, 1) := by decide +kernel
theorem d_MaskEdgesModel_putPiece_70 : decode prog_8_method_18_code 70 = .ok (.if_icmp .ne 7, 3) := by decide +kernel
theorem d_MaskEdgesModel_putPiece_73 : decode prog_8_method_18_code 73 = .ok (.iconst 1, 1) := by decide +kernel
theorem d_MaskEdgesModel_putPiece_74 : decode prog_8_method_18_code 74 = .ok (.goto 4, 3) := by decide +kernel
theorem d_MaskEdgesModel_putPiece_77 : decode prog_8_method_18_code 77 = .ok (.iconst 0, 1) := by decide +kernel
theorem d_MaskEdgesModel_putPiece_78 : decode prog_8_method_18_code 78 = .ok (.istore 4, 2) := by decide +kernel
theorem d_MaskEdgesModel_putPiece_80 : decode prog_8_method_18_code 80 = .ok (.iload 4, 2) := by decide +kernel
theorem d_MaskEdgesModel_putPiece_82 : decode prog_8_method_18_code 82 = .ok (.ifCond .eq 14, 3) := by decide +kernel
theorem d_MaskEdgesModel_putPiece_85 : decode prog_8_method_18_code 85 = .ok (.aload_n 0, 1) := by decide +kernel
theorem d_MaskEdgesModel_putPiece_86 : decode prog_8_method_18_code 86 = .ok (.getfield 33, 3) := by decide +kernel
theorem d_MaskEdgesModel_putPiece_89 : decode prog_8_method_18_code 89 = .ok (.iload_n 1, 1) := by decide +kernel
theorem d_MaskEdgesModel_putPiece_90 : decode prog_8_method_18_code 90 = .ok (.iaload, 1) := by decide +kernel
theorem d_MaskEdgesModel_putPiece_91 : decode prog_8_method_18_code 91 = .ok (.iload_n 3, 1) := by decide +kernel
theorem d_MaskEdgesModel_putPiece_92 : decode prog_8_method_18_code 92 = .ok (.iadd, 1) := by decide +kernel
theorem d_MaskEdgesModel_putPiece_93 : decode prog_8_method_18_code 93 = .ok (.goto 13, 3) := by decide +kernel
theorem d_MaskEdgesModel_putPiece_96 : decode prog_8_method_18_code 96 = .ok (.aload_n 0, 1) := by decide +kernel
theorem d_MaskEdgesModel_putPiece_97 : decode prog_8_method_18_code 97 = .ok (.getfield 33, 3) := by decide +kernel
theorem d_MaskEdgesModel_putPiece_100 : decode prog_8_method_18_code 100 = .ok (.iload_n 1, 1) := by decide +kernel
theorem d_MaskEdgesModel_putPiece_101 : decode prog_8_method_18_code 101 = .ok (.iaload, 1) := by decide +kernel
theorem d_MaskEdgesModel_putPiece_102 : decode prog_8_method_18_code 102 = .ok (.iconst 1, 1) := by decide +kernel
theorem d_MaskEdgesModel_putPiece_103 : decode prog_8_method_18_code 103 = .ok (.isub, 1) := by decide +kernel
theorem d_MaskEdgesModel_putPiece_104 : decode prog_8_method_18_code 104 = .ok (.iload_n 3, 1) := by decide +kernel
theorem d_MaskEdgesModel_putPiece_105 : decode prog_8_method_18_code 105 = .ok (.isub, 1) := by decide +kernel
theorem d_MaskEdgesModel_putPiece_106 : decode prog_8_method_18_code 106 = .ok (.istore 5, 2) := by decide +kernel
theorem d_MaskEdgesModel_putPiece_108 : decode prog_8_method_18_code 108 = .ok (.aload_n 0, 1) := by decide +kernel
theorem d_MaskEdgesModel_putPiece_109 : decode prog_8_method_18_code 109 = .ok (.getfield 36, 3) := by decide +kernel
theorem d_MaskEdgesModel_putPiece_112 : decode prog_8_method_18_code 112 = .ok (.iload_n 1, 1) := by decide +kernel
theorem d_MaskEdgesModel_putPiece_113 : decode prog_8_method_18_code 113 = .ok (.iaload, 1) := by decide +kernel
theorem d_MaskEdgesModel_putPiece_114 : decode prog_8_method_18_code 114 = .ok (.istore 6, 2) := by decide +kernel
theorem d_MaskEdgesModel_putPiece_116 : decode prog_8_method_18_code 116 = .ok (.iload 6, 2) := by decide +kernel
theorem d_MaskEdgesModel_putPiece_118 : decode prog_8_method_18_code 118 = .ok (.aload_n 0, 1) := by decide +kernel
theorem d_MaskEdgesModel_putPiece_119 : decode prog_8_method_18_code 119 = .ok (.getfield 39, 3) := by decide +kernel
theorem d_MaskEdgesModel_putPiece_122 : decode prog_8_method_18_code 122 = .ok (.iload_n 1, 1) := by decide +kernel
theorem d_MaskEdgesModel_putPiece_123 : decode prog_8_method_18_code 123 = .ok (.iaload, 1) := by decide +kernel
theorem d_MaskEdgesModel_putPiece_124 : decode prog_8_method_18_code 124 = .ok (.if_icmp .ge 59, 3) := by decide +kernel
theorem d_MaskEdgesModel_putPiece_127 : decode prog_8_method_18_code 127 = .ok (.aload_n 0, 1) := by decide +kernel
theorem d_MaskEdgesModel_putPiece_128 : decode prog_8_method_18_code 128 = .ok (.aload_n 0, 1) := by decide +kernel
theorem d_MaskEdgesModel_putPiece_129 : decode prog_8_method_18_code 129 = .ok (.getfield 42, 3) := by decide +kernel
theorem d_MaskEdgesModel_putPiece_132 : decode prog_8_method_18_code 132 = .ok (.iload_n 1, 1) := by decide +kernel
theorem d_MaskEdgesModel_putPiece_133 : decode prog_8_method_18_code 133 = .ok (.baload, 1) := by decide +kernel
theorem d_MaskEdgesModel_putPiece_134 : decode prog_8_method_18_code 134 = .ok (.ifCond .eq 8, 3) := by decide +kernel
theorem d_MaskEdgesModel_putPiece_137 : decode prog_8_method_18_code 137 = .ok (.iload 6, 2) := by decide +kernel
theorem d_MaskEdgesModel_putPiece_139 : decode prog_8_method_18_code 139 = .ok (.goto 5, 3) := by decide +kernel
theorem d_MaskEdgesModel_putPiece_142 : decode prog_8_method_18_code 142 = .ok (.iload 5, 2) := by decide +kernel
theorem d_MaskEdgesModel_putPiece_144 : decode prog_8_method_18_code 144 = .ok (.aload_n 0, 1) := by decide +kernel
theorem d_MaskEdgesModel_putPiece_145 : decode prog_8_method_18_code 145 = .ok (.getfield 42, 3) := by decide +kernel
theorem d_MaskEdgesModel_putPiece_148 : decode prog_8_method_18_code 148 = .ok (.iload_n 1, 1) := by decide +kernel
theorem d_MaskEdgesModel_putPiece_149 : decode prog_8_method_18_code 149 = .ok (.baload, 1) := by decide +kernel
theorem d_MaskEdgesModel_putPiece_150 : decode prog_8_method_18_code 150 = .ok (.ifCond .eq 8, 3) := by decide +kernel
theorem d_MaskEdgesModel_putPiece_153 : decode prog_8_method_18_code 153 = .ok (.iload 5, 2) := by decide +kernel
theorem d_MaskEdgesModel_putPiece_155 : decode prog_8_method_18_code 155 = .ok (.goto 5, 3) := by decide +kernel
theorem d_MaskEdgesModel_putPiece_158 : decode prog_8_method_18_code 158 = .ok (.iload 6, 2) := by decide +kernel
theorem d_MaskEdgesModel_putPiece_160 : decode prog_8_method_18_code 160 = .ok (.aload_n 0, 1) := by decide +kernel
theorem d_MaskEdgesModel_putPiece_161 : decode prog_8_method_18_code 161 = .ok (.getfield 54, 3) := by decide +kernel
theorem d_MaskEdgesModel_putPiece_164 : decode prog_8_method_18_code 164 = .ok (.iload_n 1, 1) := by decide +kernel
theorem d_MaskEdgesModel_putPiece_165 : decode prog_8_method_18_code 165 = .ok (.iaload, 1) := by decide +kernel
theorem d_MaskEdgesModel_putPiece_166 : decode prog_8_method_18_code 166 = .ok (.ifCond .le 7, 3) := by decide +kernel
theorem d_MaskEdgesModel_putPiece_169 : decode prog_8_method_18_code 169 = .ok (.iconst 1, 1) := by decide +kernel
theorem d_MaskEdgesModel_putPiece_170 : decode prog_8_method_18_code 170 = .ok (.goto 4, 3) := by decide +kernel
theorem d_MaskEdgesModel_putPiece_173 : decode prog_8_method_18_code 173 = .ok (.iconst 0, 1) := by decide +kernel
theorem d_MaskEdgesModel_putPiece_174 : decode prog_8_method_18_code 174 = .ok (.invokevirtual 140, 3) := by decide +kernel
theorem d_MaskEdgesModel_putPiece_177 : decode prog_8_method_18_code 177 = .ok (.iinc 6 1, 3) := by decide +kernel
theorem d_MaskEdgesModel_putPiece_180 : decode prog_8_method_18_code 180 = .ok (.goto (-64), 3) := by decide +kernel
theorem d_MaskEdgesModel_putPiece_183 : decode prog_8_method_18_code 183 = .ok (.iinc 3 1, 3) := by decide +kernel
theorem d_MaskEdgesModel_putPiece_186 : decode prog_8_method_18_code 186 = .ok (.goto (-158), 3) := by decide +kernel
theorem d_MaskEdgesModel_putPiece_189 : decode prog_8_method_18_code 189 = .ok (.return_, 1) := by decide +kernel
theorem d_MaskEdgesModel_make_0 : decode prog_8_method_19_code 0 = .ok (.iconst 0, 1) := by decide +kernel
theorem d_MaskEdgesModel_make_1 : decode prog_8_method_19_code 1 = .ok (.istore_n 1, 1) := by decide +kernel
theorem d_MaskEdgesModel_make_2 : decode prog_8_method_19_code 2 = .ok (.iload_n 1, 1) := by decide +kernel
theorem d_MaskEdgesModel_make_3 : decode prog_8_method_19_code 3 = .ok (.bipush 48, 2) := by decide +kernel
theorem d_MaskEdgesModel_make_5 : decode prog_8_method_19_code 5 = .ok (.if_icmp .ge 40, 3) := by decide +kernel
theorem d_MaskEdgesModel_make_8 : decode prog_8_method_19_code 8 = .ok (.iconst 0, 1) := by decide +kernel
theorem d_MaskEdgesModel_make_9 : decode prog_8_method_19_code 9 = .ok (.istore_n 2, 1) := by decide +kernel
theorem d_MaskEdgesModel_make_10 : decode prog_8_method_19_code 10 = .ok (.iload_n 2, 1) := by decide +kernel
theorem d_MaskEdgesModel_make_11 : decode prog_8_method_19_code 11 = .ok (.bipush 48, 2) := by decide +kernel
theorem d_MaskEdgesModel_make_13 : decode prog_8_method_19_code 13 = .ok (.if_icmp .ge 26, 3) := by decide +kernel
theorem d_MaskEdgesModel_make_16 : decode prog_8_method_19_code 16 = .ok (.aload_n 0, 1) := by decide +kernel
theorem d_MaskEdgesModel_make_17 : decode prog_8_method_19_code 17 = .ok (.getfield 72, 3) := by decide +kernel
theorem d_MaskEdgesModel_make_20 : decode prog_8_method_19_code 20 = .ok (.bipush 48, 2) := by decide +kernel
theorem d_MaskEdgesModel_make_22 : decode prog_8_method_19_code 22 = .ok (.iload_n 1, 1) := by decide +kernel
theorem d_MaskEdgesModel_make_23 : decode prog_8_method_19_code 23 = .ok (.imul, 1) := by decide +kernel
theorem d_MaskEdgesModel_make_24 : decode prog_8_method_19_code 24 = .ok (.iload_n 2, 1) := by decide +kernel
theorem d_MaskEdgesModel_make_25 : decode prog_8_method_19_code 25 = .ok (.iadd, 1) := by decide +kernel
theorem d_MaskEdgesModel_make_26 : decode prog_8_method_19_code 26 = .ok (.aload_n 0, 1) := by decide +kernel
theorem d_MaskEdgesModel_make_27 : decode prog_8_method_19_code 27 = .ok (.iload_n 2, 1) := by decide +kernel
theorem d_MaskEdgesModel_make_28 : decode prog_8_method_19_code 28 = .ok (.iload_n 1, 1) := by decide +kernel
theorem d_MaskEdgesModel_make_29 : decode prog_8_method_19_code 29 = .ok (.invokevirtual 144, 3) := by decide +kernel
theorem d_MaskEdgesModel_make_32 : decode prog_8_method_19_code 32 = .ok (.bastore, 1) := by decide +kernel
theorem d_MaskEdgesModel_make_33 : decode prog_8_method_19_code 33 = .ok (.iinc 2 1, 3) := by decide +kernel
theorem d_MaskEdgesModel_make_36 : decode prog_8_method_19_code 36 = .ok (.goto (-26), 3) := by decide +kernel
theorem d_MaskEdgesModel_make_39 : decode prog_8_method_19_code 39 = .ok (.iinc 1 1, 3) := by decide +kernel
theorem d_MaskEdgesModel_make_42 : decode prog_8_method_19_code 42 = .ok (.goto (-40), 3) := by decide +kernel
theorem d_MaskEdgesModel_make_45 : decode prog_8_method_19_code 45 = .ok (.iconst 0, 1) := by decide +kernel
theorem d_MaskEdgesModel_make_46 : decode prog_8_method_19_code 46 = .ok (.istore_n 1, 1) := by decide +kernel
theorem d_MaskEdgesModel_make_47 : decode prog_8_method_19_code 47 = .ok (.iload_n 1, 1) := by decide +kernel
theorem d_MaskEdgesModel_make_48 : decode prog_8_method_19_code 48 = .ok (.aload_n 0, 1) := by decide +kernel
theorem d_MaskEdgesModel_make_49 : decode prog_8_method_19_code 49 = .ok (.getfield 90, 3) := by decide +kernel
theorem d_MaskEdgesModel_make_52 : decode prog_8_method_19_code 52 = .ok (.if_icmp .ge 14, 3) := by decide +kernel
theorem d_MaskEdgesModel_make_55 : decode prog_8_method_19_code 55 = .ok (.aload_n 0, 1) := by decide +kernel
theorem d_MaskEdgesModel_make_56 : decode prog_8_method_19_code 56 = .ok (.iload_n 1, 1) := by decide +kernel
theorem d_MaskEdgesModel_make_57 : decode prog_8_method_19_code 57 = .ok (.invokevirtual 147, 3) := by decide +kernel
theorem d_MaskEdgesModel_make_60 : decode prog_8_method_19_code 60 = .ok (.iinc 1 1, 3) := by decide +kernel
theorem d_MaskEdgesModel_make_63 : decode prog_8_method_19_code 63 = .ok (.goto (-16), 3) := by decide +kernel
theorem d_MaskEdgesModel_make_66 : decode prog_8_method_19_code 66 = .ok (.iconst 0, 1) := by decide +kernel
theorem d_MaskEdgesModel_make_67 : decode prog_8_method_19_code 67 = .ok (.istore_n 1, 1) := by decide +kernel
theorem d_MaskEdgesModel_make_68 : decode prog_8_method_19_code 68 = .ok (.iload_n 1, 1) := by decide +kernel
theorem d_MaskEdgesModel_make_69 : decode prog_8_method_19_code 69 = .ok (.aload_n 0, 1) := by decide +kernel
theorem d_MaskEdgesModel_make_70 : decode prog_8_method_19_code 70 = .ok (.getfield 151, 3) := by decide +kernel
theorem d_MaskEdgesModel_make_73 : decode prog_8_method_19_code 73 = .ok (.if_icmp .ge 62, 3) := by decide +kernel
theorem d_MaskEdgesModel_make_76 : decode prog_8_method_19_code 76 = .ok (.aload_n 0, 1) := by decide +kernel
theorem d_MaskEdgesModel_make_77 : decode prog_8_method_19_code 77 = .ok (.getfield 63, 3) := by decide +kernel
theorem d_MaskEdgesModel_make_80 : decode prog_8_method_19_code 80 = .ok (.iload_n 1, 1) := by decide +kernel
theorem d_MaskEdgesModel_make_81 : decode prog_8_method_19_code 81 = .ok (.iaload, 1) := by decide +kernel
theorem d_MaskEdgesModel_make_82 : decode prog_8_method_19_code 82 = .ok (.istore_n 2, 1) := by decide +kernel
theorem d_MaskEdgesModel_make_83 : decode prog_8_method_19_code 83 = .ok (.iload_n 2, 1) := by decide +kernel
theorem d_MaskEdgesModel_make_84 : decode prog_8_method_19_code 84 = .ok (.aload_n 0, 1) := by decide +kernel
theorem d_MaskEdgesModel_make_85 : decode prog_8_method_19_code 85 = .ok (.getfield 69, 3) := by decide +kernel
theorem d_MaskEdgesModel_make_88 : decode prog_8_method_19_code 88 = .ok (.iload_n 1, 1) := by decide +kernel
theorem d_MaskEdgesModel_make_89 : decode prog_8_method_19_code 89 = .ok (.iaload, 1) := by decide +kernel
theorem d_MaskEdgesModel_make_90 : decode prog_8_method_19_code 90 = .ok (.if_icmp .gt 39, 3) := by decide +kernel
theorem d_MaskEdgesModel_make_93 : decode prog_8_method_19_code 93 = .ok (.aload_n 0, 1) := by decide +kernel
theorem d_MaskEdgesModel_make_94 : decode prog_8_method_19_code 94 = .ok (.getfield 60, 3) := by decide +kernel
theorem d_MaskEdgesModel_make_97 : decode prog_8_method_19_code 97 = .ok (.iload_n 1, 1) := by decide +kernel
theorem d_MaskEdgesModel_make_98 : decode prog_8_method_19_code 98 = .ok (.iaload, 1) := by decide +kernel
theorem d_MaskEdgesModel_make_99 : decode prog_8_method_19_code 99 = .ok (.istore_n 3, 1) := by decide +kernel
theorem d_MaskEdgesModel_make_100 : decode prog_8_method_19_code 100 = .ok (.iload_n 3, 1) := by decide +kernel
theorem d_MaskEdgesModel_make_101 : decode prog_8_method_19_code 101 = .ok (.aload_n 0, 1) := by decide +kernel
theorem d_MaskEdgesModel_make_102 : decode prog_8_method_19_code 102 = .ok (.getfield 66, 3) := by decide +kernel
theorem d_MaskEdgesModel_make_105 : decode prog_8_method_19_code 105 = .ok (.iload_n 1, 1) := by decide +kernel
theorem d_MaskEdgesModel_make_106 : decode prog_8_method_19_code 106 = .ok (.iaload, 1) := by decide +kernel
theorem d_MaskEdgesModel_make_107 : decode prog_8_method_19_code 107 = .ok (.if_icmp .gt 16, 3) := by decide +kernel
theorem d_MaskEdgesModel_make_110 : decode prog_8_method_19_code 110 = .ok (.aload_n 0, 1) := by decide +kernel
theorem d_MaskEdgesModel_make_111 : decode prog_8_method_19_code 111 = .ok (.iload_n 3, 1) := by decide +kernel
theorem d_MaskEdgesModel_make_112 : decode prog_8_method_19_code 112 = .ok (.iload_n 2, 1) := by decide +kernel
theorem d_MaskEdgesModel_make_113 : decode prog_8_method_19_code 113 = .ok (.iconst 1, 1) := by decide +kernel
theorem d_MaskEdgesModel_make_114 : decode prog_8_method_19_code 114 = .ok (.invokevirtual 140, 3) := by decide +kernel
theorem d_MaskEdgesModel_make_117 : decode prog_8_method_19_code 117 = .ok (.iinc 3 1, 3) := by decide +kernel
theorem d_MaskEdgesModel_make_120 : decode prog_8_method_19_code 120 = .ok (.goto (-20), 3) := by decide +kernel
theorem d_MaskEdgesModel_make_123 : decode prog_8_method_19_code 123 = .ok (.iinc 2 1, 3) := by decide +kernel
theorem d_MaskEdgesModel_make_126 : decode prog_8_method_19_code 126 = .ok (.goto (-43), 3) := by decide +kernel
theorem d_MaskEdgesModel_make_129 : decode prog_8_method_19_code 129 = .ok (.iinc 1 1, 3) := by decide +kernel
theorem d_MaskEdgesModel_make_132 : decode prog_8_method_19_code 132 = .ok (.goto (-64), 3) := by decide +kernel
theorem d_MaskEdgesModel_make_135 : decode prog_8_method_19_code 135 = .ok (.iconst 0, 1) := by decide +kernel
theorem d_MaskEdgesModel_make_136 : decode prog_8_method_19_code 136 = .ok (.istore_n 1, 1) := by decide +kernel
theorem d_MaskEdgesModel_make_137 : decode prog_8_method_19_code 137 = .ok (.iload_n 1, 1) := by decide +kernel
theorem d_MaskEdgesModel_make_138 : decode prog_8_method_19_code 138 = .ok (.bipush 48, 2) := by decide +kernel
theorem d_MaskEdgesModel_make_140 : decode prog_8_method_19_code 140 = .ok (.if_icmp .ge 90, 3) := by decide +kernel
theorem d_MaskEdgesModel_make_143 : decode prog_8_method_19_code 143 = .ok (.iconst 0, 1) := by decide +kernel
theorem d_MaskEdgesModel_make_144 : decode prog_8_method_19_code 144 = .ok (.istore_n 2, 1) := by decide +kernel
theorem d_MaskEdgesModel_make_145 : decode prog_8_method_19_code 145 = .ok (.iload_n 2, 1) := by decide +kernel
theorem d_MaskEdgesModel_make_146 : decode prog_8_method_19_code 146 = .ok (.bipush 48, 2) := by decide +kernel
theorem d_MaskEdgesModel_make_148 : decode prog_8_method_19_code 148 = .ok (.if_icmp .ge 76, 3) := by decide +kernel
theorem d_MaskEdgesModel_make_151 : decode prog_8_method_19_code 151 = .ok (.bipush 49, 2) := by decide +kernel
theorem d_MaskEdgesModel_make_153 : decode prog_8_method_19_code 153 = .ok (.iload_n 1, 1) := by decide +kernel
theorem d_MaskEdgesModel_make_154 : decode prog_8_method_19_code 154 = .ok (.iconst 1, 1) := by decide +kernel
theorem d_MaskEdgesModel_make_155 : decode prog_8_method_19_code 155 = .ok (.iadd, 1) := by decide +kernel
theorem d_MaskEdgesModel_make_156 : decode prog_8_method_19_code 156 = .ok (.imul, 1) := by decide +kernel
theorem d_MaskEdgesModel_make_157 : decode prog_8_method_19_code 157 = .ok (.iload_n 2, 1) := by decide +kernel
theorem d_MaskEdgesModel_make_158 : decode prog_8_method_19_code 158 = .ok (.iadd, 1) := by decide +kernel
theorem d_MaskEdgesModel_make_159 : decode prog_8_method_19_code 159 = .ok (.iconst 1, 1) := by decide +kernel
theorem d_MaskEdgesModel_make_160 : decode prog_8_method_19_code 160 = .ok (.iadd, 1) := by decide +kernel
theorem d_MaskEdgesModel_make_161 : decode prog_8_method_19_code 161 = .ok (.istore_n 3, 1) := by decide +kernel
theorem d_MaskEdgesModel_make_162 : decode prog_8_method_19_code 162 = .ok (.aload_n 0, 1) := by decide +kernel
theorem d_MaskEdgesModel_make_163 : decode prog_8_method_19_code 163 = .ok (.getfield 75, 3) := by decide +kernel
theorem d_MaskEdgesModel_make_166 : decode prog_8_method_19_code 166 = .ok (.iload_n 3, 1) := by decide +kernel
theorem d_MaskEdgesModel_make_167 : decode prog_8_method_19_code 167 = .ok (.aload_n 0, 1) := by decide +kernel
theorem d_MaskEdgesModel_make_168 : decode prog_8_method_19_code 168 = .ok (.getfield 75, 3) := by decide +kernel
theorem d_MaskEdgesModel_make_171 : decode prog_8_method_19_code 171 = .ok (.iload_n 3, 1) := by decide +kernel
theorem d_MaskEdgesModel_make_172 : decode prog_8_method_19_code 172 = .ok (.iconst 1, 1) := by decide +kernel
theorem d_MaskEdgesModel_make_173 : decode prog_8_method_19_code 173 = .ok (.isub, 1) := by decide +kernel
theorem d_MaskEdgesModel_make_174 : decode prog_8_method_19_code 174 = .ok (.iaload, 1) := by decide +kernel
theorem d_MaskEdgesModel_make_175 : decode prog_8_method_19_code 175 = .ok (.aload_n 0, 1) := by decide +kernel
theorem d_MaskEdgesModel_make_176 : decode prog_8_method_19_code 176 = .ok (.getfield 75, 3) := by decide +kernel
theorem d_MaskEdgesModel_make_179 : decode prog_8_method_19_code 179 = .ok (.iload_n 3, 1) := by decide +kernel
theorem d_MaskEdgesModel_make_180 : decode prog_8_method_19_code 180 = .ok (.bipush 49, 2) := by decide +kernel
theorem d_MaskEdgesModel_make_182 : decode prog_8_method_19_code 182 = .ok (.isub, 1) := by decide +kernel
theorem d_MaskEdgesModel_make_183 : decode prog_8_method_19_code 183 = .ok (.iaload, 1) := by decide +kernel
theorem d_MaskEdgesModel_make_184 : decode prog_8_method_19_code 184 = .ok (.iadd, 1) := by decide +kernel
theorem d_MaskEdgesModel_make_185 : decode prog_8_method_19_code 185 = .ok (.aload_n 0, 1) := by decide +kernel
theorem d_MaskEdgesModel_make_186 : decode prog_8_method_19_code 186 = .ok (.getfield 75, 3) := by decide +kernel
theorem d_MaskEdgesModel_make_189 : decode prog_8_method_19_code 189 = .ok (.iload_n 3, 1) := by decide +kernel
theorem d_MaskEdgesModel_make_190 : decode prog_8_method_19_code 190 = .ok (.bipush 49, 2) := by decide +kernel
theorem d_MaskEdgesModel_make_192 : decode prog_8_method_19_code 192 = .ok (.isub, 1) := by decide +kernel
theorem d_MaskEdgesModel_make_193 : decode prog_8_method_19_code 193 = .ok (.iconst 1, 1) := by decide +kernel
theorem d_MaskEdgesModel_make_194 : decode prog_8_method_19_code 194 = .ok (.isub, 1) := by decide +kernel
theorem d_MaskEdgesModel_make_195 : decode prog_8_method_19_code 195 = .ok (.iaload, 1) := by decide +kernel
theorem d_MaskEdgesModel_make_196 : decode prog_8_method_19_code 196 = .ok (.isub, 1) := by decide +kernel
theorem d_MaskEdgesModel_make_197 : decode prog_8_method_19_code 197 = .ok (.aload_n 0, 1) := by decide +kernel
theorem d_MaskEdgesModel_make_198 : decode prog_8_method_19_code 198 = .ok (.getfield 72, 3) := by decide +kernel
theorem d_MaskEdgesModel_make_201 : decode prog_8_method_19_code 201 = .ok (.bipush 48, 2) := by decide +kernel
theorem d_MaskEdgesModel_make_203 : decode prog_8_method_19_code 203 = .ok (.iload_n 1, 1) := by decide +kernel
theorem d_MaskEdgesModel_make_204 : decode prog_8_method_19_code 204 = .ok (.imul, 1) := by decide +kernel
theorem d_MaskEdgesModel_make_205 : decode prog_8_method_19_code 205 = .ok (.iload_n 2, 1) := by decide +kernel
theorem d_MaskEdgesModel_make_206 : decode prog_8_method_19_code 206 = .ok (.iadd, 1) := by decide +kernel
theorem d_MaskEdgesModel_make_207 : decode prog_8_method_19_code 207 = .ok (.baload, 1) := by decide +kernel
theorem d_MaskEdgesModel_make_208 : decode prog_8_method_19_code 208 = .ok (.ifCond .eq 7, 3) := by decide +kernel
theorem d_MaskEdgesModel_make_211 : decode prog_8_method_19_code 211 = .ok (.iconst 1, 1) := by decide +kernel
theorem d_MaskEdgesModel_make_212 : decode prog_8_method_19_code 212 = .ok (.goto 4, 3) := by decide +kernel
theorem d_MaskEdgesModel_make_215 : decode prog_8_method_19_code 215 = .ok (.iconst 0, 1) := by decide +kernel
theorem d_MaskEdgesModel_make_216 : decode prog_8_method_19_code 216 = .ok (.iadd, 1) := by decide +kernel
theorem d_MaskEdgesModel_make_217 : decode prog_8_method_19_code 217 = .ok (.iastore, 1) := by decide +kernel
theorem d_MaskEdgesModel_make_218 : decode prog_8_method_19_code 218 = .ok (.iinc 2 1, 3) := by decide +kernel
theorem d_MaskEdgesModel_make_221 : decode prog_8_method_19_code 221 = .ok (.goto (-76), 3) := by decide +kernel
theorem d_MaskEdgesModel_make_224 : decode prog_8_method_19_code 224 = .ok (.iinc 1 1, 3) := by decide +kernel
theorem d_MaskEdgesModel_make_227 : decode prog_8_method_19_code 227 = .ok (.goto (-90), 3) := by decide +kernel
theorem d_MaskEdgesModel_make_230 : decode prog_8_method_19_code 230 = .ok (.return_, 1) := by decide +kernel
theorem d_MaskEdgesModel_within_0 : decode prog_8_method_20_code 0 = .ok (.iload_n 0, 1) := by decide +kernel
theorem d_MaskEdgesModel_within_1 : decode prog_8_method_20_code 1 = .ok (.ifCond .ge 7, 3) := by decide +kernel
theorem d_MaskEdgesModel_within_4 : decode prog_8_method_20_code 4 = .ok (.iconst 0, 1) := by decide +kernel
theorem d_MaskEdgesModel_within_5 : decode prog_8_method_20_code 5 = .ok (.goto 15, 3) := by decide +kernel
theorem d_MaskEdgesModel_within_8 : decode prog_8_method_20_code 8 = .ok (.iload_n 0, 1) := by decide +kernel
theorem d_MaskEdgesModel_within_9 : decode prog_8_method_20_code 9 = .ok (.bipush 48, 2) := by decide +kernel
theorem d_MaskEdgesModel_within_11 : decode prog_8_method_20_code 11 = .ok (.if_icmp .le 8, 3) := by decide +kernel
theorem d_MaskEdgesModel_within_14 : decode prog_8_method_20_code 14 = .ok (.bipush 48, 2) := by decide +kernel
theorem d_MaskEdgesModel_within_16 : decode prog_8_method_20_code 16 = .ok (.goto 4, 3) := by decide +kernel
theorem d_MaskEdgesModel_within_19 : decode prog_8_method_20_code 19 = .ok (.iload_n 0, 1) := by decide +kernel
theorem d_MaskEdgesModel_within_20 : decode prog_8_method_20_code 20 = .ok (.ireturn, 1) := by decide +kernel
