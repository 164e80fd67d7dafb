theorem d_MaskEdges_init_0 : decode prog_1_method_1_code 0 = .ok (.aload_n 0, 1) := by decide +kernel
theorem d_MaskEdges_init_1 : decode prog_1_method_1_code 1 = .ok (.invokespecial 1, 3) := by decide +kernel
theorem d_MaskEdges_init_4 : decode prog_1_method_1_code 4 = .ok (.aload_n 0, 1) := by decide +kernel
theorem d_MaskEdges_init_5 : decode prog_1_method_1_code 5 = .ok (.iconst 4, 1) := by decide +kernel
theorem d_MaskEdges_init_6 : decode prog_1_method_1_code 6 = .ok (.anewarray 9, 3) := by decide +kernel
theorem d_MaskEdges_init_9 : decode prog_1_method_1_code 9 = .ok (.putfield 11, 3) := by decide +kernel
theorem d_MaskEdges_init_12 : decode prog_1_method_1_code 12 = .ok (.aload_n 0, 1) := by decide +kernel
theorem d_MaskEdges_init_13 : decode prog_1_method_1_code 13 = .ok (.bipush 120, 2) := by decide +kernel
theorem d_MaskEdges_init_15 : decode prog_1_method_1_code 15 = .ok (.anewarray 15, 3) := by decide +kernel
theorem d_MaskEdges_init_18 : decode prog_1_method_1_code 18 = .ok (.putfield 17, 3) := by decide +kernel
theorem d_MaskEdges_init_21 : decode prog_1_method_1_code 21 = .ok (.aload_n 0, 1) := by decide +kernel
theorem d_MaskEdges_init_22 : decode prog_1_method_1_code 22 = .ok (.bipush 120, 2) := by decide +kernel
theorem d_MaskEdges_init_24 : decode prog_1_method_1_code 24 = .ok (.newarray .int, 2) := by decide +kernel
theorem d_MaskEdges_init_26 : decode prog_1_method_1_code 26 = .ok (.putfield 21, 3) := by decide +kernel
theorem d_MaskEdges_init_29 : decode prog_1_method_1_code 29 = .ok (.aload_n 0, 1) := by decide +kernel
theorem d_MaskEdges_init_30 : decode prog_1_method_1_code 30 = .ok (.bipush 24, 2) := by decide +kernel
theorem d_MaskEdges_init_32 : decode prog_1_method_1_code 32 = .ok (.anewarray 25, 3) := by decide +kernel
theorem d_MaskEdges_init_35 : decode prog_1_method_1_code 35 = .ok (.putfield 27, 3) := by decide +kernel
theorem d_MaskEdges_init_38 : decode prog_1_method_1_code 38 = .ok (.aload_n 0, 1) := by decide +kernel
theorem d_MaskEdges_init_39 : decode prog_1_method_1_code 39 = .ok (.new 31, 3) := by decide +kernel
theorem d_MaskEdges_init_42 : decode prog_1_method_1_code 42 = .ok (.dup, 1) := by decide +kernel
theorem d_MaskEdges_init_43 : decode prog_1_method_1_code 43 = .ok (.invokespecial 33, 3) := by decide +kernel
theorem d_MaskEdges_init_46 : decode prog_1_method_1_code 46 = .ok (.putfield 34, 3) := by decide +kernel
theorem d_MaskEdges_init_49 : decode prog_1_method_1_code 49 = .ok (.aload_n 0, 1) := by decide +kernel
theorem d_MaskEdges_init_50 : decode prog_1_method_1_code 50 = .ok (.new 31, 3) := by decide +kernel
theorem d_MaskEdges_init_53 : decode prog_1_method_1_code 53 = .ok (.dup, 1) := by decide +kernel
theorem d_MaskEdges_init_54 : decode prog_1_method_1_code 54 = .ok (.invokespecial 33, 3) := by decide +kernel
theorem d_MaskEdges_init_57 : decode prog_1_method_1_code 57 = .ok (.putfield 38, 3) := by decide +kernel
theorem d_MaskEdges_init_60 : decode prog_1_method_1_code 60 = .ok (.aload_n 0, 1) := by decide +kernel
theorem d_MaskEdges_init_61 : decode prog_1_method_1_code 61 = .ok (.new 31, 3) := by decide +kernel
theorem d_MaskEdges_init_64 : decode prog_1_method_1_code 64 = .ok (.dup, 1) := by decide +kernel
theorem d_MaskEdges_init_65 : decode prog_1_method_1_code 65 = .ok (.invokespecial 33, 3) := by decide +kernel
theorem d_MaskEdges_init_68 : decode prog_1_method_1_code 68 = .ok (.putfield 41, 3) := by decide +kernel
theorem d_MaskEdges_init_71 : decode prog_1_method_1_code 71 = .ok (.aload_n 0, 1) := by decide +kernel
theorem d_MaskEdges_init_72 : decode prog_1_method_1_code 72 = .ok (.new 44, 3) := by decide +kernel
theorem d_MaskEdges_init_75 : decode prog_1_method_1_code 75 = .ok (.dup, 1) := by decide +kernel
theorem d_MaskEdges_init_76 : decode prog_1_method_1_code 76 = .ok (.invokespecial 46, 3) := by decide +kernel
theorem d_MaskEdges_init_79 : decode prog_1_method_1_code 79 = .ok (.putfield 47, 3) := by decide +kernel
theorem d_MaskEdges_init_82 : decode prog_1_method_1_code 82 = .ok (.aload_n 0, 1) := by decide +kernel
theorem d_MaskEdges_init_83 : decode prog_1_method_1_code 83 = .ok (.bipush 21, 2) := by decide +kernel
theorem d_MaskEdges_init_85 : decode prog_1_method_1_code 85 = .ok (.newarray .int, 2) := by decide +kernel
theorem d_MaskEdges_init_87 : decode prog_1_method_1_code 87 = .ok (.putfield 51, 3) := by decide +kernel
theorem d_MaskEdges_init_90 : decode prog_1_method_1_code 90 = .ok (.aload_n 0, 1) := by decide +kernel
theorem d_MaskEdges_init_91 : decode prog_1_method_1_code 91 = .ok (.new 25, 3) := by decide +kernel
theorem d_MaskEdges_init_94 : decode prog_1_method_1_code 94 = .ok (.dup, 1) := by decide +kernel
theorem d_MaskEdges_init_95 : decode prog_1_method_1_code 95 = .ok (.invokespecial 54, 3) := by decide +kernel
theorem d_MaskEdges_init_98 : decode prog_1_method_1_code 98 = .ok (.putfield 55, 3) := by decide +kernel
theorem d_MaskEdges_init_101 : decode prog_1_method_1_code 101 = .ok (.iconst 0, 1) := by decide +kernel
theorem d_MaskEdges_init_102 : decode prog_1_method_1_code 102 = .ok (.istore_n 1, 1) := by decide +kernel
theorem d_MaskEdges_init_103 : decode prog_1_method_1_code 103 = .ok (.iload_n 1, 1) := by decide +kernel
theorem d_MaskEdges_init_104 : decode prog_1_method_1_code 104 = .ok (.iconst 4, 1) := by decide +kernel
theorem d_MaskEdges_init_105 : decode prog_1_method_1_code 105 = .ok (.if_icmp .ge 22, 3) := by decide +kernel
theorem d_MaskEdges_init_108 : decode prog_1_method_1_code 108 = .ok (.aload_n 0, 1) := by decide +kernel
theorem d_MaskEdges_init_109 : decode prog_1_method_1_code 109 = .ok (.getfield 11, 3) := by decide +kernel
theorem d_MaskEdges_init_112 : decode prog_1_method_1_code 112 = .ok (.iload_n 1, 1) := by decide +kernel
theorem d_MaskEdges_init_113 : decode prog_1_method_1_code 113 = .ok (.new 9, 3) := by decide +kernel
theorem d_MaskEdges_init_116 : decode prog_1_method_1_code 116 = .ok (.dup, 1) := by decide +kernel
theorem d_MaskEdges_init_117 : decode prog_1_method_1_code 117 = .ok (.invokespecial 59, 3) := by decide +kernel
theorem d_MaskEdges_init_120 : decode prog_1_method_1_code 120 = .ok (.aastore, 1) := by decide +kernel
theorem d_MaskEdges_init_121 : decode prog_1_method_1_code 121 = .ok (.iinc 1 1, 3) := by decide +kernel
theorem d_MaskEdges_init_124 : decode prog_1_method_1_code 124 = .ok (.goto (-21), 3) := by decide +kernel
theorem d_MaskEdges_init_127 : decode prog_1_method_1_code 127 = .ok (.iconst 0, 1) := by decide +kernel
theorem d_MaskEdges_init_128 : decode prog_1_method_1_code 128 = .ok (.istore_n 1, 1) := by decide +kernel
theorem d_MaskEdges_init_129 : decode prog_1_method_1_code 129 = .ok (.iload_n 1, 1) := by decide +kernel
theorem d_MaskEdges_init_130 : decode prog_1_method_1_code 130 = .ok (.bipush 120, 2) := by decide +kernel
theorem d_MaskEdges_init_132 : decode prog_1_method_1_code 132 = .ok (.if_icmp .ge 22, 3) := by decide +kernel
theorem d_MaskEdges_init_135 : decode prog_1_method_1_code 135 = .ok (.aload_n 0, 1) := by decide +kernel
theorem d_MaskEdges_init_136 : decode prog_1_method_1_code 136 = .ok (.getfield 17, 3) := by decide +kernel
theorem d_MaskEdges_init_139 : decode prog_1_method_1_code 139 = .ok (.iload_n 1, 1) := by decide +kernel
theorem d_MaskEdges_init_140 : decode prog_1_method_1_code 140 = .ok (.new 15, 3) := by decide +kernel
theorem d_MaskEdges_init_143 : decode prog_1_method_1_code 143 = .ok (.dup, 1) := by decide +kernel
theorem d_MaskEdges_init_144 : decode prog_1_method_1_code 144 = .ok (.invokespecial 60, 3) := by decide +kernel
theorem d_MaskEdges_init_147 : decode prog_1_method_1_code 147 = .ok (.aastore, 1) := by decide +kernel
theorem d_MaskEdges_init_148 : decode prog_1_method_1_code 148 = .ok (.iinc 1 1, 3) := by decide +kernel
theorem d_MaskEdges_init_151 : decode prog_1_method_1_code 151 = .ok (.goto (-22), 3) := by decide +kernel
theorem d_MaskEdges_init_154 : decode prog_1_method_1_code 154 = .ok (.iconst 0, 1) := by decide +kernel
theorem d_MaskEdges_init_155 : decode prog_1_method_1_code 155 = .ok (.istore_n 1, 1) := by decide +kernel
theorem d_MaskEdges_init_156 : decode prog_1_method_1_code 156 = .ok (.iload_n 1, 1) := by decide +kernel
theorem d_MaskEdges_init_157 : decode prog_1_method_1_code 157 = .ok (.bipush 24, 2) := by decide +kernel
theorem d_MaskEdges_init_159 : decode prog_1_method_1_code 159 = .ok (.if_icmp .ge 22, 3) := by decide +kernel
theorem d_MaskEdges_init_162 : decode prog_1_method_1_code 162 = .ok (.aload_n 0, 1) := by decide +kernel
theorem d_MaskEdges_init_163 : decode prog_1_method_1_code 163 = .ok (.getfield 27, 3) := by decide +kernel
theorem d_MaskEdges_init_166 : decode prog_1_method_1_code 166 = .ok (.iload_n 1, 1) := by decide +kernel
theorem d_MaskEdges_init_167 : decode prog_1_method_1_code 167 = .ok (.new 25, 3) := by decide +kernel
theorem d_MaskEdges_init_170 : decode prog_1_method_1_code 170 = .ok (.dup, 1) := by decide +kernel
theorem d_MaskEdges_init_171 : decode prog_1_method_1_code 171 = .ok (.invokespecial 54, 3) := by decide +kernel
theorem d_MaskEdges_init_174 : decode prog_1_method_1_code 174 = .ok (.aastore, 1) := by decide +kernel
theorem d_MaskEdges_init_175 : decode prog_1_method_1_code 175 = .ok (.iinc 1 1, 3) := by decide +kernel
theorem d_MaskEdges_init_178 : decode prog_1_method_1_code 178 = .ok (.goto (-22), 3) := by decide +kernel
theorem d_MaskEdges_init_181 : decode prog_1_method_1_code 181 = .ok (.return_, 1) := by decide +kernel
theorem d_MaskEdges_polygon_0 : decode prog_1_method_2_code 0 = .ok (.aload_n 0, 1) := by decide +kernel
theorem d_MaskEdges_polygon_1 : decode prog_1_method_2_code 1 = .ok (.getfield 61, 3) := by decide +kernel
theorem d_MaskEdges_polygon_4 : decode prog_1_method_2_code 4 = .ok (.ifCond .le 6, 3) := by decide +kernel
theorem d_MaskEdges_polygon_7 : decode prog_1_method_2_code 7 = .ok (.bipush (-3), 2) := by decide +kernel
theorem d_MaskEdges_polygon_9 : decode prog_1_method_2_code 9 = .ok (.ireturn, 1) := by decide +kernel
theorem d_MaskEdges_polygon_10 : decode prog_1_method_2_code 10 = .ok (.aload_n 0, 1) := by decide +kernel
theorem d_MaskEdges_polygon_11 : decode prog_1_method_2_code 11 = .ok (.getfield 65, 3) := by decide +kernel
theorem d_MaskEdges_polygon_14 : decode prog_1_method_2_code 14 = .ok (.iconst 4, 1) := by decide +kernel
theorem d_MaskEdges_polygon_15 : decode prog_1_method_2_code 15 = .ok (.if_icmp .lt 6, 3) := by decide +kernel
theorem d_MaskEdges_polygon_18 : decode prog_1_method_2_code 18 = .ok (.bipush (-4), 2) := by decide +kernel
theorem d_MaskEdges_polygon_20 : decode prog_1_method_2_code 20 = .ok (.ireturn, 1) := by decide +kernel
theorem d_MaskEdges_polygon_21 : decode prog_1_method_2_code 21 = .ok (.aload_n 0, 1) := by decide +kernel
theorem d_MaskEdges_polygon_22 : decode prog_1_method_2_code 22 = .ok (.dup, 1) := by decide +kernel
theorem d_MaskEdges_polygon_23 : decode prog_1_method_2_code 23 = .ok (.getfield 65, 3) := by decide +kernel
theorem d_MaskEdges_polygon_26 : decode prog_1_method_2_code 26 = .ok (.iconst 1, 1) := by decide +kernel
theorem d_MaskEdges_polygon_27 : decode prog_1_method_2_code 27 = .ok (.iadd, 1) := by decide +kernel
theorem d_MaskEdges_polygon_28 : decode prog_1_method_2_code 28 = .ok (.putfield 65, 3) := by decide +kernel
theorem d_MaskEdges_polygon_31 : decode prog_1_method_2_code 31 = .ok (.aload_n 0, 1) := by decide +kernel
theorem d_MaskEdges_polygon_32 : decode prog_1_method_2_code 32 = .ok (.getfield 65, 3) := by decide +kernel
theorem d_MaskEdges_polygon_35 : decode prog_1_method_2_code 35 = .ok (.iconst 1, 1) := by decide +kernel
theorem d_MaskEdges_polygon_36 : decode prog_1_method_2_code 36 = .ok (.isub, 1) := by decide +kernel
theorem d_MaskEdges_polygon_37 : decode prog_1_method_2_code 37 = .ok (.ireturn, 1) := by decide +kernel
theorem d_MaskEdges_corner_0 : decode prog_1_method_3_code 0 = .ok (.iload_n 1, 1) := by decide +kernel
theorem d_MaskEdges_corner_1 : decode prog_1_method_3_code 1 = .ok (.ifCond .lt 18, 3) := by decide +kernel
theorem d_MaskEdges_corner_4 : decode prog_1_method_3_code 4 = .ok (.iload_n 1, 1) := by decide +kernel
theorem d_MaskEdges_corner_5 : decode prog_1_method_3_code 5 = .ok (.aload_n 0, 1) := by decide +kernel
theorem d_MaskEdges_corner_6 : decode prog_1_method_3_code 6 = .ok (.getfield 65, 3) := by decide +kernel
theorem d_MaskEdges_corner_9 : decode prog_1_method_3_code 9 = .ok (.if_icmp .ge 10, 3) := by decide +kernel
theorem d_MaskEdges_corner_12 : decode prog_1_method_3_code 12 = .ok (.aload_n 0, 1) := by decide +kernel
theorem d_MaskEdges_corner_13 : decode prog_1_method_3_code 13 = .ok (.getfield 61, 3) := by decide +kernel
theorem d_MaskEdges_corner_16 : decode prog_1_method_3_code 16 = .ok (.ifCond .le 5, 3) := by decide +kernel
theorem d_MaskEdges_corner_19 : decode prog_1_method_3_code 19 = .ok (.iconst 0, 1) := by decide +kernel
theorem d_MaskEdges_corner_20 : decode prog_1_method_3_code 20 = .ok (.ireturn, 1) := by decide +kernel
theorem d_MaskEdges_corner_21 : decode prog_1_method_3_code 21 = .ok (.lload_n 2, 1) := by decide +kernel
theorem d_MaskEdges_corner_22 : decode prog_1_method_3_code 22 = .ok (.lconst 0, 1) := by decide +kernel
theorem d_MaskEdges_corner_23 : decode prog_1_method_3_code 23 = .ok (.lcmp, 1) := by decide +kernel
theorem d_MaskEdges_corner_24 : decode prog_1_method_3_code 24 = .ok (.ifCond .lt 27, 3) := by decide +kernel
theorem d_MaskEdges_corner_27 : decode prog_1_method_3_code 27 = .ok (.lload_n 2, 1) := by decide +kernel
theorem d_MaskEdges_corner_28 : decode prog_1_method_3_code 28 = .ok (.ldc2_w 68, 3) := by decide +kernel
theorem d_MaskEdges_corner_31 : decode prog_1_method_3_code 31 = .ok (.lcmp, 1) := by decide +kernel
theorem d_MaskEdges_corner_32 : decode prog_1_method_3_code 32 = .ok (.ifCond .gt 19, 3) := by decide +kernel
theorem d_MaskEdges_corner_35 : decode prog_1_method_3_code 35 = .ok (.lload 4, 2) := by decide +kernel
theorem d_MaskEdges_corner_37 : decode prog_1_method_3_code 37 = .ok (.lconst 0, 1) := by decide +kernel
theorem d_MaskEdges_corner_38 : decode prog_1_method_3_code 38 = .ok (.lcmp, 1) := by decide +kernel
theorem d_MaskEdges_corner_39 : decode prog_1_method_3_code 39 = .ok (.ifCond .lt 12, 3) := by decide +kernel
theorem d_MaskEdges_corner_42 : decode prog_1_method_3_code 42 = .ok (.lload 4, 2) := by decide +kernel
theorem d_MaskEdges_corner_44 : decode prog_1_method_3_code 44 = .ok (.ldc2_w 68, 3) := by decide +kernel
theorem d_MaskEdges_corner_47 : decode prog_1_method_3_code 47 = .ok (.lcmp, 1) := by decide +kernel
theorem d_MaskEdges_corner_48 : decode prog_1_method_3_code 48 = .ok (.ifCond .le 5, 3) := by decide +kernel
theorem d_MaskEdges_corner_51 : decode prog_1_method_3_code 51 = .ok (.iconst 0, 1) := by decide +kernel
theorem d_MaskEdges_corner_52 : decode prog_1_method_3_code 52 = .ok (.ireturn, 1) := by decide +kernel
theorem d_MaskEdges_corner_53 : decode prog_1_method_3_code 53 = .ok (.aload_n 0, 1) := by decide +kernel
theorem d_MaskEdges_corner_54 : decode prog_1_method_3_code 54 = .ok (.getfield 11, 3) := by decide +kernel
theorem d_MaskEdges_corner_57 : decode prog_1_method_3_code 57 = .ok (.iload_n 1, 1) := by decide +kernel
theorem d_MaskEdges_corner_58 : decode prog_1_method_3_code 58 = .ok (.aaload, 1) := by decide +kernel
theorem d_MaskEdges_corner_59 : decode prog_1_method_3_code 59 = .ok (.astore 6, 2) := by decide +kernel
theorem d_MaskEdges_corner_61 : decode prog_1_method_3_code 61 = .ok (.aload 6, 2) := by decide +kernel
theorem d_MaskEdges_corner_63 : decode prog_1_method_3_code 63 = .ok (.lload_n 2, 1) := by decide +kernel
theorem d_MaskEdges_corner_64 : decode prog_1_method_3_code 64 = .ok (.l2i, 1) := by decide +kernel
theorem d_MaskEdges_corner_65 : decode prog_1_method_3_code 65 = .ok (.lload 4, 2) := by decide +kernel
theorem d_MaskEdges_corner_67 : decode prog_1_method_3_code 67 = .ok (.l2i, 1) := by decide +kernel
theorem d_MaskEdges_corner_68 : decode prog_1_method_3_code 68 = .ok (.invokevirtual 70, 3) := by decide +kernel
theorem d_MaskEdges_corner_71 : decode prog_1_method_3_code 71 = .ok (.istore 7, 2) := by decide +kernel
theorem d_MaskEdges_corner_73 : decode prog_1_method_3_code 73 = .ok (.iload 7, 2) := by decide +kernel
theorem d_MaskEdges_corner_75 : decode prog_1_method_3_code 75 = .ok (.ifCond .eq 21, 3) := by decide +kernel
theorem d_MaskEdges_corner_78 : decode prog_1_method_3_code 78 = .ok (.aload 6, 2) := by decide +kernel
theorem d_MaskEdges_corner_80 : decode prog_1_method_3_code 80 = .ok (.getfield 74, 3) := by decide +kernel
theorem d_MaskEdges_corner_83 : decode prog_1_method_3_code 83 = .ok (.ifCond .eq 13, 3) := by decide +kernel
theorem d_MaskEdges_corner_86 : decode prog_1_method_3_code 86 = .ok (.aload_n 0, 1) := by decide +kernel
theorem d_MaskEdges_corner_87 : decode prog_1_method_3_code 87 = .ok (.aload 6, 2) := by decide +kernel
theorem d_MaskEdges_corner_89 : decode prog_1_method_3_code 89 = .ok (.invokevirtual 78, 3) := by decide +kernel
theorem d_MaskEdges_corner_92 : decode prog_1_method_3_code 92 = .ok (.aload_n 0, 1) := by decide +kernel
theorem d_MaskEdges_corner_93 : decode prog_1_method_3_code 93 = .ok (.invokevirtual 82, 3) := by decide +kernel
theorem d_MaskEdges_corner_96 : decode prog_1_method_3_code 96 = .ok (.iload 7, 2) := by decide +kernel
theorem d_MaskEdges_corner_98 : decode prog_1_method_3_code 98 = .ok (.ireturn, 1) := by decide +kernel
theorem d_MaskEdges_kernel_0 : decode prog_1_method_4_code 0 = .ok (.iload_n 1, 1) := by decide +kernel
theorem d_MaskEdges_kernel_1 : decode prog_1_method_4_code 1 = .ok (.bipush (-20), 2) := by decide +kernel
theorem d_MaskEdges_kernel_3 : decode prog_1_method_4_code 3 = .ok (.bipush 20, 2) := by decide +kernel
theorem d_MaskEdges_kernel_5 : decode prog_1_method_4_code 5 = .ok (.invokestatic 85, 3) := by decide +kernel
theorem d_MaskEdges_kernel_8 : decode prog_1_method_4_code 8 = .ok (.ifCond .eq 13, 3) := by decide +kernel
theorem d_MaskEdges_kernel_11 : decode prog_1_method_4_code 11 = .ok (.iload_n 2, 1) := by decide +kernel
theorem d_MaskEdges_kernel_12 : decode prog_1_method_4_code 12 = .ok (.iconst 0, 1) := by decide +kernel
theorem d_MaskEdges_kernel_13 : decode prog_1_method_4_code 13 = .ok (.bipush 6, 2) := by decide +kernel
theorem d_MaskEdges_kernel_15 : decode prog_1_method_4_code 15 = .ok (.invokestatic 85, 3) := by decide +kernel
theorem d_MaskEdges_kernel_18 : decode prog_1_method_4_code 18 = .ok (.ifCond .ne 6, 3) := by decide +kernel
theorem d_MaskEdges_kernel_21 : decode prog_1_method_4_code 21 = .ok (.bipush (-2), 2) := by decide +kernel
theorem d_MaskEdges_kernel_23 : decode prog_1_method_4_code 23 = .ok (.ireturn, 1) := by decide +kernel
theorem d_MaskEdges_kernel_24 : decode prog_1_method_4_code 24 = .ok (.aload_n 0, 1) := by decide +kernel
theorem d_MaskEdges_kernel_25 : decode prog_1_method_4_code 25 = .ok (.getfield 47, 3) := by decide +kernel
theorem d_MaskEdges_kernel_28 : decode prog_1_method_4_code 28 = .ok (.iload_n 1, 1) := by decide +kernel
theorem d_MaskEdges_kernel_29 : decode prog_1_method_4_code 29 = .ok (.iload_n 2, 1) := by decide +kernel
theorem d_MaskEdges_kernel_30 : decode prog_1_method_4_code 30 = .ok (.invokevirtual 89, 3) := by decide +kernel
theorem d_MaskEdges_kernel_33 : decode prog_1_method_4_code 33 = .ok (.ireturn, 1) := by decide +kernel
theorem d_MaskEdges_cut_0 : decode prog_1_method_5_code 0 = .ok (.iload_n 1, 1) := by decide +kernel
theorem d_MaskEdges_cut_1 : decode prog_1_method_5_code 1 = .ok (.iconst 1, 1) := by decide +kernel
theorem d_MaskEdges_cut_2 : decode prog_1_method_5_code 2 = .ok (.bipush 48, 2) := by decide +kernel
theorem d_MaskEdges_cut_4 : decode prog_1_method_5_code 4 = .ok (.invokestatic 85, 3) := by decide +kernel
theorem d_MaskEdges_cut_7 : decode prog_1_method_5_code 7 = .ok (.ifCond .ne 6, 3) := by decide +kernel
theorem d_MaskEdges_cut_10 : decode prog_1_method_5_code 10 = .ok (.bipush (-2), 2) := by decide +kernel
theorem d_MaskEdges_cut_12 : decode prog_1_method_5_code 12 = .ok (.ireturn, 1) := by decide +kernel
theorem d_MaskEdges_cut_13 : decode prog_1_method_5_code 13 = .ok (.aload_n 0, 1) := by decide +kernel
theorem d_MaskEdges_cut_14 : decode prog_1_method_5_code 14 = .ok (.iload_n 1, 1) := by decide +kernel
theorem d_MaskEdges_cut_15 : decode prog_1_method_5_code 15 = .ok (.invokevirtual 93, 3) := by decide +kernel
theorem d_MaskEdges_cut_18 : decode prog_1_method_5_code 18 = .ok (.istore_n 2, 1) := by decide +kernel
theorem d_MaskEdges_cut_19 : decode prog_1_method_5_code 19 = .ok (.iload_n 2, 1) := by decide +kernel
theorem d_MaskEdges_cut_20 : decode prog_1_method_5_code 20 = .ok (.ifCond .ne 6, 3) := by decide +kernel
theorem d_MaskEdges_cut_23 : decode prog_1_method_5_code 23 = .ok (.bipush (-3), 2) := by decide +kernel
theorem d_MaskEdges_cut_25 : decode prog_1_method_5_code 25 = .ok (.ireturn, 1) := by decide +kernel
theorem d_MaskEdges_cut_26 : decode prog_1_method_5_code 26 = .ok (.iload_n 2, 1) := by decide +kernel
theorem d_MaskEdges_cut_27 : decode prog_1_method_5_code 27 = .ok (.bipush 120, 2) := by decide +kernel
theorem d_MaskEdges_cut_29 : decode prog_1_method_5_code 29 = .ok (.if_icmp .le 6, 3) := by decide +kernel
theorem d_MaskEdges_cut_32 : decode prog_1_method_5_code 32 = .ok (.bipush (-4), 2) := by decide +kernel
theorem d_MaskEdges_cut_34 : decode prog_1_method_5_code 34 = .ok (.ireturn, 1) := by decide +kernel
theorem d_MaskEdges_cut_35 : decode prog_1_method_5_code 35 = .ok (.aload_n 0, 1) := by decide +kernel
theorem d_MaskEdges_cut_36 : decode prog_1_method_5_code 36 = .ok (.iconst 0, 1) := by decide +kernel
theorem d_MaskEdges_cut_37 : decode prog_1_method_5_code 37 = .ok (.putfield 61, 3) := by decide +kernel
theorem d_MaskEdges_cut_40 : decode prog_1_method_5_code 40 = .ok (.iconst 0, 1) := by decide +kernel
theorem d_MaskEdges_cut_41 : decode prog_1_method_5_code 41 = .ok (.istore_n 3, 1) := by decide +kernel
theorem d_MaskEdges_cut_42 : decode prog_1_method_5_code 42 = .ok (.iload_n 3, 1) := by decide +kernel
theorem d_MaskEdges_cut_43 : decode prog_1_method_5_code 43 = .ok (.aload_n 0, 1) := by decide +kernel
theorem d_MaskEdges_cut_44 : decode prog_1_method_5_code 44 = .ok (.getfield 65, 3) := by decide +kernel
theorem d_MaskEdges_cut_47 : decode prog_1_method_5_code 47 = .ok (.if_icmp .ge 20, 3) := by decide +kernel
theorem d_MaskEdges_cut_50 : decode prog_1_method_5_code 50 = .ok (.aload_n 0, 1) := by decide +kernel
theorem d_MaskEdges_cut_51 : decode prog_1_method_5_code 51 = .ok (.aload_n 0, 1) := by decide +kernel
theorem d_MaskEdges_cut_52 : decode prog_1_method_5_code 52 = .ok (.getfield 11, 3) := by decide +kernel
theorem d_MaskEdges_cut_55 : decode prog_1_method_5_code 55 = .ok (.iload_n 3, 1) := by decide +kernel
theorem d_MaskEdges_cut_56 : decode prog_1_method_5_code 56 = .ok (.aaload, 1) := by decide +kernel
theorem d_MaskEdges_cut_57 : decode prog_1_method_5_code 57 = .ok (.iload_n 1, 1) := by decide +kernel
theorem d_MaskEdges_cut_58 : decode prog_1_method_5_code 58 = .ok (.invokevirtual 97, 3) := by decide +kernel
theorem d_MaskEdges_cut_61 : decode prog_1_method_5_code 61 = .ok (.iinc 3 1, 3) := by decide +kernel
theorem d_MaskEdges_cut_64 : decode prog_1_method_5_code 64 = .ok (.goto (-22), 3) := by decide +kernel
theorem d_MaskEdges_cut_67 : decode prog_1_method_5_code 67 = .ok (.aload_n 0, 1) := by decide +kernel
theorem d_MaskEdges_cut_68 : decode prog_1_method_5_code 68 = .ok (.invokevirtual 82, 3) := by decide +kernel
theorem d_MaskEdges_cut_71 : decode prog_1_method_5_code 71 = .ok (.aload_n 0, 1) := by decide +kernel
theorem d_MaskEdges_cut_72 : decode prog_1_method_5_code 72 = .ok (.getfield 61, 3) := by decide +kernel
theorem d_MaskEdges_cut_75 : decode prog_1_method_5_code 75 = .ok (.ireturn, 1) := by decide +kernel
theorem d_MaskEdges_image_0 : decode prog_1_method_6_code 0 = .ok (.iload_n 1, 1) := by decide +kernel
theorem d_MaskEdges_image_1 : decode prog_1_method_6_code 1 = .ok (.iload_n 2, 1) := by decide +kernel
theorem d_MaskEdges_image_2 : decode prog_1_method_6_code 2 = .ok (.invokestatic 101, 3) := by decide +kernel
theorem d_MaskEdges_image_5 : decode prog_1_method_6_code 5 = .ok (.ifCond .eq 19, 3) := by decide +kernel
theorem d_MaskEdges_image_8 : decode prog_1_method_6_code 8 = .ok (.aload_n 0, 1) := by decide +kernel
theorem d_MaskEdges_image_9 : decode prog_1_method_6_code 9 = .ok (.getfield 47, 3) := by decide +kernel
theorem d_MaskEdges_image_12 : decode prog_1_method_6_code 12 = .ok (.aload_n 0, 1) := by decide +kernel
theorem d_MaskEdges_image_13 : decode prog_1_method_6_code 13 = .ok (.getfield 41, 3) := by decide +kernel
theorem d_MaskEdges_image_16 : decode prog_1_method_6_code 16 = .ok (.iload_n 1, 1) := by decide +kernel
theorem d_MaskEdges_image_17 : decode prog_1_method_6_code 17 = .ok (.iload_n 2, 1) := by decide +kernel
theorem d_MaskEdges_image_18 : decode prog_1_method_6_code 18 = .ok (.invokevirtual 104, 3) := by decide +kernel
theorem d_MaskEdges_image_21 : decode prog_1_method_6_code 21 = .ok (.goto 4, 3) := by decide +kernel
theorem d_MaskEdges_image_24 : decode prog_1_method_6_code 24 = .ok (.iconst 0, 1) := by decide +kernel
theorem d_MaskEdges_image_25 : decode prog_1_method_6_code 25 = .ok (.ireturn, 1) := by decide +kernel
theorem d_MaskEdges_error_0 : decode prog_1_method_7_code 0 = .ok (.aload_n 0, 1) := by decide +kernel
theorem d_MaskEdges_error_1 : decode prog_1_method_7_code 1 = .ok (.iload_n 1, 1) := by decide +kernel
theorem d_MaskEdges_error_2 : decode prog_1_method_7_code 2 = .ok (.invokevirtual 108, 3) := by decide +kernel
theorem d_MaskEdges_error_5 : decode prog_1_method_7_code 5 = .ok (.ifCond .eq 18, 3) := by decide +kernel
theorem d_MaskEdges_error_8 : decode prog_1_method_7_code 8 = .ok (.aload_n 0, 1) := by decide +kernel
theorem d_MaskEdges_error_9 : decode prog_1_method_7_code 9 = .ok (.aload_n 0, 1) := by decide +kernel
theorem d_MaskEdges_error_10 : decode prog_1_method_7_code 10 = .ok (.getfield 17, 3) := by decide +kernel
theorem d_MaskEdges_error_13 : decode prog_1_method_7_code 13 = .ok (.iload_n 1, 1) := by decide +kernel
theorem d_MaskEdges_error_14 : decode prog_1_method_7_code 14 = .ok (.aaload, 1) := by decide +kernel
theorem d_MaskEdges_error_15 : decode prog_1_method_7_code 15 = .ok (.bipush 100, 2) := by decide +kernel
theorem d_MaskEdges_error_17 : decode prog_1_method_7_code 17 = .ok (.invokevirtual 112, 3) := by decide +kernel
theorem d_MaskEdges_error_20 : decode prog_1_method_7_code 20 = .ok (.goto 4, 3) := by decide +kernel
theorem d_MaskEdges_error_23 : decode prog_1_method_7_code 23 = .ok (.iconst 0, 1) := by decide +kernel
theorem d_MaskEdges_error_24 : decode prog_1_method_7_code 24 = .ok (.ireturn, 1) := by decide +kernel
theorem d_MaskEdges_run_0 : decode prog_1_method_8_code 0 = .ok (.iload_n 1, 1) := by decide +kernel
theorem d_MaskEdges_run_1 : decode prog_1_method_8_code 1 = .ok (.iconst 1, 1) := by decide +kernel
theorem d_MaskEdges_run_2 : decode prog_1_method_8_code 2 = .ok (.bipush 20, 2) := by decide +kernel
theorem d_MaskEdges_run_4 : decode prog_1_method_8_code 4 = .ok (.invokestatic 85, 3) := by decide +kernel
theorem d_MaskEdges_run_7 : decode prog_1_method_8_code 7 = .ok (.ifCond .eq 13, 3) := by decide +kernel
theorem d_MaskEdges_run_10 : decode prog_1_method_8_code 10 = .ok (.iload_n 2, 1) := by decide +kernel
theorem d_MaskEdges_run_11 : decode prog_1_method_8_code 11 = .ok (.iconst 1, 1) := by decide +kernel
theorem d_MaskEdges_run_12 : decode prog_1_method_8_code 12 = .ok (.ldc 116, 2) := by decide +kernel
theorem d_MaskEdges_run_14 : decode prog_1_method_8_code 14 = .ok (.invokestatic 85, 3) := by decide +kernel
theorem d_MaskEdges_run_17 : decode prog_1_method_8_code 17 = .ok (.ifCond .ne 6, 3) := by decide +kernel
theorem d_MaskEdges_run_20 : decode prog_1_method_8_code 20 = .ok (.bipush (-2), 2) := by decide +kernel
theorem d_MaskEdges_run_22 : decode prog_1_method_8_code 22 = .ok (.ireturn, 1) := by decide +kernel
theorem d_MaskEdges_run_23 : decode prog_1_method_8_code 23 = .ok (.iload_n 3, 1) := by decide +kernel
theorem d_MaskEdges_run_24 : decode prog_1_method_8_code 24 = .ok (.iconst 1, 1) := by decide +kernel
theorem d_MaskEdges_run_25 : decode prog_1_method_8_code 25 = .ok (.iconst 4, 1) := by decide +kernel
theorem d_MaskEdges_run_26 : decode prog_1_method_8_code 26 = .ok (.invokestatic 85, 3) := by decide +kernel
theorem d_MaskEdges_run_29 : decode prog_1_method_8_code 29 = .ok (.ifCond .eq 14, 3) := by decide +kernel
theorem d_MaskEdges_run_32 : decode prog_1_method_8_code 32 = .ok (.iload 4, 2) := by decide +kernel
theorem d_MaskEdges_run_34 : decode prog_1_method_8_code 34 = .ok (.iconst 1, 1) := by decide +kernel
theorem d_MaskEdges_run_35 : decode prog_1_method_8_code 35 = .ok (.bipush 6, 2) := by decide +kernel
theorem d_MaskEdges_run_37 : decode prog_1_method_8_code 37 = .ok (.invokestatic 85, 3) := by decide +kernel
theorem d_MaskEdges_run_40 : decode prog_1_method_8_code 40 = .ok (.ifCond .ne 6, 3) := by decide +kernel
theorem d_MaskEdges_run_43 : decode prog_1_method_8_code 43 = .ok (.bipush (-2), 2) := by decide +kernel
theorem d_MaskEdges_run_45 : decode prog_1_method_8_code 45 = .ok (.ireturn, 1) := by decide +kernel
theorem d_MaskEdges_run_46 : decode prog_1_method_8_code 46 = .ok (.aload_n 0, 1) := by decide +kernel
theorem d_MaskEdges_run_47 : decode prog_1_method_8_code 47 = .ok (.getfield 61, 3) := by decide +kernel
theorem d_MaskEdges_run_50 : decode prog_1_method_8_code 50 = .ok (.ifCond .ne 6, 3) := by decide +kernel
theorem d_MaskEdges_run_53 : decode prog_1_method_8_code 53 = .ok (.bipush (-3), 2) := by decide +kernel
theorem d_MaskEdges_run_55 : decode prog_1_method_8_code 55 = .ok (.ireturn, 1) := by decide +kernel
theorem d_MaskEdges_run_56 : decode prog_1_method_8_code 56 = .ok (.aload_n 0, 1) := by decide +kernel
theorem d_MaskEdges_run_57 : decode prog_1_method_8_code 57 = .ok (.getfield 47, 3) := by decide +kernel
theorem d_MaskEdges_run_60 : decode prog_1_method_8_code 60 = .ok (.iload_n 2, 1) := by decide +kernel
theorem d_MaskEdges_run_61 : decode prog_1_method_8_code 61 = .ok (.putfield 117, 3) := by decide +kernel
theorem d_MaskEdges_run_64 : decode prog_1_method_8_code 64 = .ok (.aload_n 0, 1) := by decide +kernel
theorem d_MaskEdges_run_65 : decode prog_1_method_8_code 65 = .ok (.getfield 51, 3) := by decide +kernel
theorem d_MaskEdges_run_68 : decode prog_1_method_8_code 68 = .ok (.iconst 0, 1) := by decide +kernel
theorem d_MaskEdges_run_69 : decode prog_1_method_8_code 69 = .ok (.aload_n 0, 1) := by decide +kernel
theorem d_MaskEdges_run_70 : decode prog_1_method_8_code 70 = .ok (.invokevirtual 120, 3) := by decide +kernel
theorem d_MaskEdges_run_73 : decode prog_1_method_8_code 73 = .ok (.iastore, 1) := by decide +kernel
theorem d_MaskEdges_run_74 : decode prog_1_method_8_code 74 = .ok (.iconst 0, 1) := by decide +kernel
theorem d_MaskEdges_run_75 : decode prog_1_method_8_code 75 = .ok (.istore 5, 2) := by decide +kernel
theorem d_MaskEdges_run_77 : decode prog_1_method_8_code 77 = .ok (.iload 5, 2) := by decide +kernel
theorem d_MaskEdges_run_79 : decode prog_1_method_8_code 79 = .ok (.iload_n 1, 1) := by decide +kernel
theorem d_MaskEdges_run_80 : decode prog_1_method_8_code 80 = .ok (.if_icmp .ge 67, 3) := by decide +kernel
theorem d_MaskEdges_run_83 : decode prog_1_method_8_code 83 = .ok (.aload_n 0, 1) := by decide +kernel
theorem d_MaskEdges_run_84 : decode prog_1_method_8_code 84 = .ok (.getfield 51, 3) := by decide +kernel
theorem d_MaskEdges_run_87 : decode prog_1_method_8_code 87 = .ok (.iload 5, 2) := by decide +kernel
theorem d_MaskEdges_run_89 : decode prog_1_method_8_code 89 = .ok (.iaload, 1) := by decide +kernel
theorem d_MaskEdges_run_90 : decode prog_1_method_8_code 90 = .ok (.ifCond .le 57, 3) := by decide +kernel
theorem d_MaskEdges_run_93 : decode prog_1_method_8_code 93 = .ok (.aload_n 0, 1) := by decide +kernel
theorem d_MaskEdges_run_94 : decode prog_1_method_8_code 94 = .ok (.iload_n 3, 1) := by decide +kernel
theorem d_MaskEdges_run_95 : decode prog_1_method_8_code 95 = .ok (.iload 4, 2) := by decide +kernel
theorem d_MaskEdges_run_97 : decode prog_1_method_8_code 97 = .ok (.invokevirtual 124, 3) := by decide +kernel
theorem d_MaskEdges_run_100 : decode prog_1_method_8_code 100 = .ok (.ifCond .eq 47, 3) := by decide +kernel
theorem d_MaskEdges_run_103 : decode prog_1_method_8_code 103 = .ok (.aload_n 0, 1) := by decide +kernel
theorem d_MaskEdges_run_104 : decode prog_1_method_8_code 104 = .ok (.invokevirtual 82, 3) := by decide +kernel
theorem d_MaskEdges_run_107 : decode prog_1_method_8_code 107 = .ok (.aload_n 0, 1) := by decide +kernel
theorem d_MaskEdges_run_108 : decode prog_1_method_8_code 108 = .ok (.invokevirtual 120, 3) := by decide +kernel
theorem d_MaskEdges_run_111 : decode prog_1_method_8_code 111 = .ok (.istore 6, 2) := by decide +kernel
theorem d_MaskEdges_run_113 : decode prog_1_method_8_code 113 = .ok (.iload 6, 2) := by decide +kernel
theorem d_MaskEdges_run_115 : decode prog_1_method_8_code 115 = .ok (.aload_n 0, 1) := by decide +kernel
theorem d_MaskEdges_run_116 : decode prog_1_method_8_code 116 = .ok (.getfield 51, 3) := by decide +kernel
theorem d_MaskEdges_run_119 : decode prog_1_method_8_code 119 = .ok (.iload 5, 2) := by decide +kernel
theorem d_MaskEdges_run_121 : decode prog_1_method_8_code 121 = .ok (.iaload, 1) := by decide +kernel
theorem d_MaskEdges_run_122 : decode prog_1_method_8_code 122 = .ok (.if_icmp .le 10, 3) := by decide +kernel
theorem d_MaskEdges_run_125 : decode prog_1_method_8_code 125 = .ok (.aload_n 0, 1) := by decide +kernel
theorem d_MaskEdges_run_126 : decode prog_1_method_8_code 126 = .ok (.invokevirtual 127, 3) := by decide +kernel
theorem d_MaskEdges_run_129 : decode prog_1_method_8_code 129 = .ok (.goto 18, 3) := by decide +kernel
theorem d_MaskEdges_run_132 : decode prog_1_method_8_code 132 = .ok (.iinc 5 1, 3) := by decide +kernel
theorem d_MaskEdges_run_135 : decode prog_1_method_8_code 135 = .ok (.aload_n 0, 1) := by decide +kernel
theorem d_MaskEdges_run_136 : decode prog_1_method_8_code 136 = .ok (.getfield 51, 3) := by decide +kernel
theorem d_MaskEdges_run_139 : decode prog_1_method_8_code 139 = .ok (.iload 5, 2) := by decide +kernel
theorem d_MaskEdges_run_141 : decode prog_1_method_8_code 141 = .ok (.iload 6, 2) := by decide +kernel
theorem d_MaskEdges_run_143 : decode prog_1_method_8_code 143 = .ok (.iastore, 1) := by decide +kernel
theorem d_MaskEdges_run_144 : decode prog_1_method_8_code 144 = .ok (.goto (-67), 3) := by decide +kernel
theorem d_MaskEdges_run_147 : decode prog_1_method_8_code 147 = .ok (.aload_n 0, 1) := by decide +kernel
theorem d_MaskEdges_run_148 : decode prog_1_method_8_code 148 = .ok (.iload 5, 2) := by decide +kernel
theorem d_MaskEdges_run_150 : decode prog_1_method_8_code 150 = .ok (.iconst 1, 1) := by decide +kernel
theorem d_MaskEdges_run_151 : decode prog_1_method_8_code 151 = .ok (.iadd, 1) := by decide +kernel
theorem d_MaskEdges_run_152 : decode prog_1_method_8_code 152 = .ok (.putfield 130, 3) := by decide +kernel
theorem d_MaskEdges_run_155 : decode prog_1_method_8_code 155 = .ok (.iload 5, 2) := by decide +kernel
theorem d_MaskEdges_run_157 : decode prog_1_method_8_code 157 = .ok (.ireturn, 1) := by decide +kernel
theorem d_MaskEdges_moved_0 : decode prog_1_method_9_code 0 = .ok (.aload_n 0, 1) := by decide +kernel
theorem d_MaskEdges_moved_1 : decode prog_1_method_9_code 1 = .ok (.iload_n 1, 1) := by decide +kernel
theorem d_MaskEdges_moved_2 : decode prog_1_method_9_code 2 = .ok (.invokevirtual 108, 3) := by decide +kernel
theorem d_MaskEdges_moved_5 : decode prog_1_method_9_code 5 = .ok (.ifCond .eq 15, 3) := by decide +kernel
theorem d_MaskEdges_moved_8 : decode prog_1_method_9_code 8 = .ok (.aload_n 0, 1) := by decide +kernel
theorem d_MaskEdges_moved_9 : decode prog_1_method_9_code 9 = .ok (.getfield 17, 3) := by decide +kernel
theorem d_MaskEdges_moved_12 : decode prog_1_method_9_code 12 = .ok (.iload_n 1, 1) := by decide +kernel
theorem d_MaskEdges_moved_13 : decode prog_1_method_9_code 13 = .ok (.aaload, 1) := by decide +kernel
theorem d_MaskEdges_moved_14 : decode prog_1_method_9_code 14 = .ok (.getfield 133, 3) := by decide +kernel
theorem d_MaskEdges_moved_17 : decode prog_1_method_9_code 17 = .ok (.goto 4, 3) := by decide +kernel
theorem d_MaskEdges_moved_20 : decode prog_1_method_9_code 20 = .ok (.iconst 0, 1) := by decide +kernel
theorem d_MaskEdges_moved_21 : decode prog_1_method_9_code 21 = .ok (.ireturn, 1) := by decide +kernel
theorem d_MaskEdges_worst_0 : decode prog_1_method_10_code 0 = .ok (.iload_n 1, 1) := by decide +kernel
theorem d_MaskEdges_worst_1 : decode prog_1_method_10_code 1 = .ok (.ifCond .lt 20, 3) := by decide +kernel
theorem d_MaskEdges_worst_4 : decode prog_1_method_10_code 4 = .ok (.iload_n 1, 1) := by decide +kernel
theorem d_MaskEdges_worst_5 : decode prog_1_method_10_code 5 = .ok (.aload_n 0, 1) := by decide +kernel
theorem d_MaskEdges_worst_6 : decode prog_1_method_10_code 6 = .ok (.getfield 130, 3) := by decide +kernel
theorem d_MaskEdges_worst_9 : decode prog_1_method_10_code 9 = .ok (.if_icmp .ge 12, 3) := by decide +kernel
theorem d_MaskEdges_worst_12 : decode prog_1_method_10_code 12 = .ok (.aload_n 0, 1) := by decide +kernel
theorem d_MaskEdges_worst_13 : decode prog_1_method_10_code 13 = .ok (.getfield 51, 3) := by decide +kernel
theorem d_MaskEdges_worst_16 : decode prog_1_method_10_code 16 = .ok (.iload_n 1, 1) := by decide +kernel
theorem d_MaskEdges_worst_17 : decode prog_1_method_10_code 17 = .ok (.iaload, 1) := by decide +kernel
theorem d_MaskEdges_worst_18 : decode prog_1_method_10_code 18 = .ok (.goto 4, 3) := by decide +kernel
theorem d_MaskEdges_worst_21 : decode prog_1_method_10_code 21 = .ok (.iconst (-1), 1) := by decide +kernel
theorem d_MaskEdges_worst_22 : decode prog_1_method_10_code 22 = .ok (.ireturn, 1) := by decide +kernel
theorem d_MaskEdges_helper_0 : decode prog_1_method_11_code 0 = .ok (.iload_n 1, 1) := by decide +kernel
theorem d_MaskEdges_helper_1 : decode prog_1_method_11_code 1 = .ok (.iconst 1, 1) := by decide +kernel
theorem d_MaskEdges_helper_2 : decode prog_1_method_11_code 2 = .ok (.bipush 8, 2) := by decide +kernel
theorem d_MaskEdges_helper_4 : decode prog_1_method_11_code 4 = .ok (.invokestatic 85, 3) := by decide +kernel
theorem d_MaskEdges_helper_7 : decode prog_1_method_11_code 7 = .ok (.ifCond .eq 12, 3) := by decide +kernel
theorem d_MaskEdges_helper_10 : decode prog_1_method_11_code 10 = .ok (.iload_n 2, 1) := by decide +kernel
theorem d_MaskEdges_helper_11 : decode prog_1_method_11_code 11 = .ok (.iconst 1, 1) := by decide +kernel
theorem d_MaskEdges_helper_12 : decode prog_1_method_11_code 12 = .ok (.iconst 4, 1) := by decide +kernel
theorem d_MaskEdges_helper_13 : decode prog_1_method_11_code 13 = .ok (.invokestatic 85, 3) := by decide +kernel
theorem d_MaskEdges_helper_16 : decode prog_1_method_11_code 16 = .ok (.ifCond .ne 6, 3) := by decide +kernel
theorem d_MaskEdges_helper_19 : decode prog_1_method_11_code 19 = .ok (.bipush (-2), 2) := by decide +kernel
theorem d_MaskEdges_helper_21 : decode prog_1_method_11_code 21 = .ok (.ireturn, 1) := by decide +kernel
theorem d_MaskEdges_helper_22 : decode prog_1_method_11_code 22 = .ok (.aload_n 0, 1) := by decide +kernel
theorem d_MaskEdges_helper_23 : decode prog_1_method_11_code 23 = .ok (.getfield 61, 3) := by decide +kernel
theorem d_MaskEdges_helper_26 : decode prog_1_method_11_code 26 = .ok (.ifCond .ne 6, 3) := by decide +kernel
theorem d_MaskEdges_helper_29 : decode prog_1_method_11_code 29 = .ok (.bipush (-3), 2) := by decide +kernel
theorem d_MaskEdges_helper_31 : decode prog_1_method_11_code 31 = .ok (.ireturn, 1) := by decide +kernel
theorem d_MaskEdges_helper_32 : decode prog_1_method_11_code 32 = .ok (.aload_n 0, 1) := by decide +kernel
theorem d_MaskEdges_helper_33 : decode prog_1_method_11_code 33 = .ok (.getfield 136, 3) := by decide +kernel
theorem d_MaskEdges_helper_36 : decode prog_1_method_11_code 36 = .ok (.istore_n 3, 1) := by decide +kernel
theorem d_MaskEdges_helper_37 : decode prog_1_method_11_code 37 = .ok (.iconst 0, 1) := by decide +kernel
theorem d_MaskEdges_helper_38 : decode prog_1_method_11_code 38 = .ok (.istore 4, 2) := by decide +kernel
theorem d_MaskEdges_helper_40 : decode prog_1_method_11_code 40 = .ok (.iload 4, 2) := by decide +kernel
theorem d_MaskEdges_helper_42 : decode prog_1_method_11_code 42 = .ok (.aload_n 0, 1) := by decide +kernel
theorem d_MaskEdges_helper_43 : decode prog_1_method_11_code 43 = .ok (.getfield 61, 3) := by decide +kernel
theorem d_MaskEdges_helper_46 : decode prog_1_method_11_code 46 = .ok (.if_icmp .ge 35, 3) := by decide +kernel
theorem d_MaskEdges_helper_49 : decode prog_1_method_11_code 49 = .ok (.aload_n 0, 1) := by decide +kernel
theorem d_MaskEdges_helper_50 : decode prog_1_method_11_code 50 = .ok (.getfield 17, 3) := by decide +kernel
theorem d_MaskEdges_helper_53 : decode prog_1_method_11_code 53 = .ok (.iload 4, 2) := by decide +kernel
theorem d_MaskEdges_helper_55 : decode prog_1_method_11_code 55 = .ok (.aaload, 1) := by decide +kernel
theorem d_MaskEdges_helper_56 : decode prog_1_method_11_code 56 = .ok (.invokevirtual 139, 3) := by decide +kernel
theorem d_MaskEdges_helper_59 : decode prog_1_method_11_code 59 = .ok (.ifCond .eq 16, 3) := by decide +kernel
theorem d_MaskEdges_helper_62 : decode prog_1_method_11_code 62 = .ok (.aload_n 0, 1) := by decide +kernel
theorem d_MaskEdges_helper_63 : decode prog_1_method_11_code 63 = .ok (.aload_n 0, 1) := by decide +kernel
theorem d_MaskEdges_helper_64 : decode prog_1_method_11_code 64 = .ok (.getfield 17, 3) := by decide +kernel
theorem d_MaskEdges_helper_67 : decode prog_1_method_11_code 67 = .ok (.iload 4, 2) := by decide +kernel
theorem d_MaskEdges_helper_69 : decode prog_1_method_11_code 69 = .ok (.aaload, 1) := by decide +kernel
theorem d_MaskEdges_helper_70 : decode prog_1_method_11_code 70 = .ok (.iload_n 1, 1) := by decide +kernel
theorem d_MaskEdges_helper_71 : decode prog_1_method_11_code 71 = .ok (.iload_n 2, 1) := by decide +kernel
theorem d_MaskEdges_helper_72 : decode prog_1_method_11_code 72 = .ok (.invokevirtual 143, 3) := by decide +kernel
theorem d_MaskEdges_helper_75 : decode prog_1_method_11_code 75 = .ok (.iinc 4 1, 3) := by decide +kernel
theorem d_MaskEdges_helper_78 : decode prog_1_method_11_code 78 = .ok (.goto (-38), 3) := by decide +kernel
theorem d_MaskEdges_helper_81 : decode prog_1_method_11_code 81 = .ok (.aload_n 0, 1) := by decide +kernel
theorem d_MaskEdges_helper_82 : decode prog_1_method_11_code 82 = .ok (.invokevirtual 82, 3) := by decide +kernel
theorem d_MaskEdges_helper_85 : decode prog_1_method_11_code 85 = .ok (.aload_n 0, 1) := by decide +kernel
theorem d_MaskEdges_helper_86 : decode prog_1_method_11_code 86 = .ok (.getfield 136, 3) := by decide +kernel
theorem d_MaskEdges_helper_89 : decode prog_1_method_11_code 89 = .ok (.iload_n 3, 1) := by decide +kernel
theorem d_MaskEdges_helper_90 : decode prog_1_method_11_code 90 = .ok (.isub, 1) := by decide +kernel
theorem d_MaskEdges_helper_91 : decode prog_1_method_11_code 91 = .ok (.ireturn, 1) := by decide +kernel
theorem d_MaskEdges_prints_0 : decode prog_1_method_12_code 0 = .ok (.iload_n 1, 1) := by decide +kernel
theorem d_MaskEdges_prints_1 : decode prog_1_method_12_code 1 = .ok (.ifCond .lt 22, 3) := by decide +kernel
theorem d_MaskEdges_prints_4 : decode prog_1_method_12_code 4 = .ok (.iload_n 1, 1) := by decide +kernel
theorem d_MaskEdges_prints_5 : decode prog_1_method_12_code 5 = .ok (.aload_n 0, 1) := by decide +kernel
theorem d_MaskEdges_prints_6 : decode prog_1_method_12_code 6 = .ok (.getfield 136, 3) := by decide +kernel
theorem d_MaskEdges_prints_9 : decode prog_1_method_12_code 9 = .ok (.if_icmp .ge 14, 3) := by decide +kernel
theorem d_MaskEdges_prints_12 : decode prog_1_method_12_code 12 = .ok (.iload_n 2, 1) := by decide +kernel
theorem d_MaskEdges_prints_13 : decode prog_1_method_12_code 13 = .ok (.iconst 1, 1) := by decide +kernel
theorem d_MaskEdges_prints_14 : decode prog_1_method_12_code 14 = .ok (.sipush 1000, 3) := by decide +kernel
theorem d_MaskEdges_prints_17 : decode prog_1_method_12_code 17 = .ok (.invokestatic 85, 3) := by decide +kernel
theorem d_MaskEdges_prints_20 : decode prog_1_method_12_code 20 = .ok (.ifCond .ne 5, 3) := by decide +kernel
theorem d_MaskEdges_prints_23 : decode prog_1_method_12_code 23 = .ok (.iconst 0, 1) := by decide +kernel
theorem d_MaskEdges_prints_24 : decode prog_1_method_12_code 24 = .ok (.ireturn, 1) := by decide +kernel
theorem d_MaskEdges_prints_25 : decode prog_1_method_12_code 25 = .ok (.aload_n 0, 1) := by decide +kernel
theorem d_MaskEdges_prints_26 : decode prog_1_method_12_code 26 = .ok (.getfield 27, 3) := by decide +kernel
theorem d_MaskEdges_prints_29 : decode prog_1_method_12_code 29 = .ok (.iload_n 1, 1) := by decide +kernel
theorem d_MaskEdges_prints_30 : decode prog_1_method_12_code 30 = .ok (.aaload, 1) := by decide +kernel
theorem d_MaskEdges_prints_31 : decode prog_1_method_12_code 31 = .ok (.astore_n 3, 1) := by decide +kernel
theorem d_MaskEdges_prints_32 : decode prog_1_method_12_code 32 = .ok (.aload_n 3, 1) := by decide +kernel
theorem d_MaskEdges_prints_33 : decode prog_1_method_12_code 33 = .ok (.getfield 147, 3) := by decide +kernel
theorem d_MaskEdges_prints_36 : decode prog_1_method_12_code 36 = .ok (.istore 4, 2) := by decide +kernel
theorem d_MaskEdges_prints_38 : decode prog_1_method_12_code 38 = .ok (.iload 4, 2) := by decide +kernel
theorem d_MaskEdges_prints_40 : decode prog_1_method_12_code 40 = .ok (.aload_n 3, 1) := by decide +kernel
theorem d_MaskEdges_prints_41 : decode prog_1_method_12_code 41 = .ok (.getfield 150, 3) := by decide +kernel
theorem d_MaskEdges_prints_44 : decode prog_1_method_12_code 44 = .ok (.if_icmp .ge 51, 3) := by decide +kernel
theorem d_MaskEdges_prints_47 : decode prog_1_method_12_code 47 = .ok (.aload_n 3, 1) := by decide +kernel
theorem d_MaskEdges_prints_48 : decode prog_1_method_12_code 48 = .ok (.getfield 153, 3) := by decide +kernel
theorem d_MaskEdges_prints_51 : decode prog_1_method_12_code 51 = .ok (.istore 5, 2) := by decide +kernel
theorem d_MaskEdges_prints_53 : decode prog_1_method_12_code 53 = .ok (.iload 5, 2) := by decide +kernel
theorem d_MaskEdges_prints_55 : decode prog_1_method_12_code 55 = .ok (.aload_n 3, 1) := by decide +kernel
theorem d_MaskEdges_prints_56 : decode prog_1_method_12_code 56 = .ok (.getfield 156, 3) := by decide +kernel
theorem d_MaskEdges_prints_59 : decode prog_1_method_12_code 59 = .ok (.if_icmp .ge 30, 3) := by decide +kernel
theorem d_MaskEdges_prints_62 : decode prog_1_method_12_code 62 = .ok (.aload_n 0, 1) := by decide +kernel
theorem d_MaskEdges_prints_63 : decode prog_1_method_12_code 63 = .ok (.getfield 47, 3) := by decide +kernel
theorem d_MaskEdges_prints_66 : decode prog_1_method_12_code 66 = .ok (.aload_n 0, 1) := by decide +kernel
theorem d_MaskEdges_prints_67 : decode prog_1_method_12_code 67 = .ok (.getfield 41, 3) := by decide +kernel
theorem d_MaskEdges_prints_70 : decode prog_1_method_12_code 70 = .ok (.iload 5, 2) := by decide +kernel
theorem d_MaskEdges_prints_72 : decode prog_1_method_12_code 72 = .ok (.iload 4, 2) := by decide +kernel
theorem d_MaskEdges_prints_74 : decode prog_1_method_12_code 74 = .ok (.iload_n 2, 1) := by decide +kernel
theorem d_MaskEdges_prints_75 : decode prog_1_method_12_code 75 = .ok (.invokevirtual 159, 3) := by decide +kernel
theorem d_MaskEdges_prints_78 : decode prog_1_method_12_code 78 = .ok (.ifCond .eq 5, 3) := by decide +kernel
theorem d_MaskEdges_prints_81 : decode prog_1_method_12_code 81 = .ok (.iconst 1, 1) := by decide +kernel
theorem d_MaskEdges_prints_82 : decode prog_1_method_12_code 82 = .ok (.ireturn, 1) := by decide +kernel
theorem d_MaskEdges_prints_83 : decode prog_1_method_12_code 83 = .ok (.iinc 5 1, 3) := by decide +kernel
theorem d_MaskEdges_prints_86 : decode prog_1_method_12_code 86 = .ok (.goto (-33), 3) := by decide +kernel
theorem d_MaskEdges_prints_89 : decode prog_1_method_12_code 89 = .ok (.iinc 4 1, 3) := by decide +kernel
theorem d_MaskEdges_prints_92 : decode prog_1_method_12_code 92 = .ok (.goto (-54), 3) := by decide +kernel
theorem d_MaskEdges_prints_95 : decode prog_1_method_12_code 95 = .ok (.iconst 0, 1) := by decide +kernel
theorem d_MaskEdges_prints_96 : decode prog_1_method_12_code 96 = .ok (.ireturn, 1) := by decide +kernel
theorem d_MaskEdges_edge_0 : decode prog_1_method_13_code 0 = .ok (.aload_n 0, 1) := by decide +kernel
theorem d_MaskEdges_edge_1 : decode prog_1_method_13_code 1 = .ok (.iload_n 1, 1) := by decide +kernel
theorem d_MaskEdges_edge_2 : decode prog_1_method_13_code 2 = .ok (.invokevirtual 108, 3) := by decide +kernel
theorem d_MaskEdges_edge_5 : decode prog_1_method_13_code 5 = .ok (.ifCond .eq 28, 3) := by decide +kernel
theorem d_MaskEdges_edge_8 : decode prog_1_method_13_code 8 = .ok (.iload_n 2, 1) := by decide +kernel
theorem d_MaskEdges_edge_9 : decode prog_1_method_13_code 9 = .ok (.iconst 1, 1) := by decide +kernel
theorem d_MaskEdges_edge_10 : decode prog_1_method_13_code 10 = .ok (.sipush 1000, 3) := by decide +kernel
theorem d_MaskEdges_edge_13 : decode prog_1_method_13_code 13 = .ok (.invokestatic 85, 3) := by decide +kernel
theorem d_MaskEdges_edge_16 : decode prog_1_method_13_code 16 = .ok (.ifCond .eq 17, 3) := by decide +kernel
theorem d_MaskEdges_edge_19 : decode prog_1_method_13_code 19 = .ok (.aload_n 0, 1) := by decide +kernel
theorem d_MaskEdges_edge_20 : decode prog_1_method_13_code 20 = .ok (.aload_n 0, 1) := by decide +kernel
theorem d_MaskEdges_edge_21 : decode prog_1_method_13_code 21 = .ok (.getfield 17, 3) := by decide +kernel
theorem d_MaskEdges_edge_24 : decode prog_1_method_13_code 24 = .ok (.iload_n 1, 1) := by decide +kernel
theorem d_MaskEdges_edge_25 : decode prog_1_method_13_code 25 = .ok (.aaload, 1) := by decide +kernel
theorem d_MaskEdges_edge_26 : decode prog_1_method_13_code 26 = .ok (.iload_n 2, 1) := by decide +kernel
theorem d_MaskEdges_edge_27 : decode prog_1_method_13_code 27 = .ok (.invokevirtual 112, 3) := by decide +kernel
theorem d_MaskEdges_edge_30 : decode prog_1_method_13_code 30 = .ok (.goto 4, 3) := by decide +kernel
theorem d_MaskEdges_edge_33 : decode prog_1_method_13_code 33 = .ok (.iconst 0, 1) := by decide +kernel
theorem d_MaskEdges_edge_34 : decode prog_1_method_13_code 34 = .ok (.ireturn, 1) := by decide +kernel
theorem d_MaskEdges_alike_0 : decode prog_1_method_14_code 0 = .ok (.aload_n 0, 1) := by decide +kernel
theorem d_MaskEdges_alike_1 : decode prog_1_method_14_code 1 = .ok (.iload_n 1, 1) := by decide +kernel
theorem d_MaskEdges_alike_2 : decode prog_1_method_14_code 2 = .ok (.invokevirtual 108, 3) := by decide +kernel
theorem d_MaskEdges_alike_5 : decode prog_1_method_14_code 5 = .ok (.ifCond .eq 11, 3) := by decide +kernel
theorem d_MaskEdges_alike_8 : decode prog_1_method_14_code 8 = .ok (.aload_n 0, 1) := by decide +kernel
theorem d_MaskEdges_alike_9 : decode prog_1_method_14_code 9 = .ok (.iload_n 2, 1) := by decide +kernel
theorem d_MaskEdges_alike_10 : decode prog_1_method_14_code 10 = .ok (.invokevirtual 108, 3) := by decide +kernel
theorem d_MaskEdges_alike_13 : decode prog_1_method_14_code 13 = .ok (.ifCond .ne 5, 3) := by decide +kernel
theorem d_MaskEdges_alike_16 : decode prog_1_method_14_code 16 = .ok (.iconst 0, 1) := by decide +kernel
theorem d_MaskEdges_alike_17 : decode prog_1_method_14_code 17 = .ok (.ireturn, 1) := by decide +kernel
theorem d_MaskEdges_alike_18 : decode prog_1_method_14_code 18 = .ok (.aload_n 0, 1) := by decide +kernel
theorem d_MaskEdges_alike_19 : decode prog_1_method_14_code 19 = .ok (.getfield 17, 3) := by decide +kernel
theorem d_MaskEdges_alike_22 : decode prog_1_method_14_code 22 = .ok (.iload_n 1, 1) := by decide +kernel
theorem d_MaskEdges_alike_23 : decode prog_1_method_14_code 23 = .ok (.aaload, 1) := by decide +kernel
theorem d_MaskEdges_alike_24 : decode prog_1_method_14_code 24 = .ok (.astore_n 3, 1) := by decide +kernel
theorem d_MaskEdges_alike_25 : decode prog_1_method_14_code 25 = .ok (.aload_n 0, 1) := by decide +kernel
theorem d_MaskEdges_alike_26 : decode prog_1_method_14_code 26 = .ok (.getfield 17, 3) := by decide +kernel
theorem d_MaskEdges_alike_29 : decode prog_1_method_14_code 29 = .ok (.iload_n 2, 1) := by decide +kernel
theorem d_MaskEdges_alike_30 : decode prog_1_method_14_code 30 = .ok (.aaload, 1) := by decide +kernel
theorem d_MaskEdges_alike_31 : decode prog_1_method_14_code 31 = .ok (.astore 4, 2) := by decide +kernel
theorem d_MaskEdges_alike_33 : decode prog_1_method_14_code 33 = .ok (.aload_n 3, 1) := by decide +kernel
theorem d_MaskEdges_alike_34 : decode prog_1_method_14_code 34 = .ok (.invokevirtual 163, 3) := by decide +kernel
theorem d_MaskEdges_alike_37 : decode prog_1_method_14_code 37 = .ok (.ifCond .ne 26, 3) := by decide +kernel
theorem d_MaskEdges_alike_40 : decode prog_1_method_14_code 40 = .ok (.aload_n 3, 1) := by decide +kernel
theorem d_MaskEdges_alike_41 : decode prog_1_method_14_code 41 = .ok (.aload 4, 2) := by decide +kernel
theorem d_MaskEdges_alike_43 : decode prog_1_method_14_code 43 = .ok (.invokevirtual 166, 3) := by decide +kernel
theorem d_MaskEdges_alike_46 : decode prog_1_method_14_code 46 = .ok (.ifCond .eq 17, 3) := by decide +kernel
theorem d_MaskEdges_alike_49 : decode prog_1_method_14_code 49 = .ok (.aload_n 0, 1) := by decide +kernel
theorem d_MaskEdges_alike_50 : decode prog_1_method_14_code 50 = .ok (.aload_n 3, 1) := by decide +kernel
theorem d_MaskEdges_alike_51 : decode prog_1_method_14_code 51 = .ok (.aload 4, 2) := by decide +kernel
theorem d_MaskEdges_alike_53 : decode prog_1_method_14_code 53 = .ok (.invokevirtual 170, 3) := by decide +kernel
theorem d_MaskEdges_alike_56 : decode prog_1_method_14_code 56 = .ok (.ifCond .eq 7, 3) := by decide +kernel
theorem d_MaskEdges_alike_59 : decode prog_1_method_14_code 59 = .ok (.iconst 1, 1) := by decide +kernel
theorem d_MaskEdges_alike_60 : decode prog_1_method_14_code 60 = .ok (.goto 4, 3) := by decide +kernel
theorem d_MaskEdges_alike_63 : decode prog_1_method_14_code 63 = .ok (.iconst 0, 1) := by decide +kernel
theorem d_MaskEdges_alike_64 : decode prog_1_method_14_code 64 = .ok (.ireturn, 1) := by decide +kernel
theorem d_MaskEdges_shift_0 : decode prog_1_method_15_code 0 = .ok (.iload_n 1, 1) := by decide +kernel
theorem d_MaskEdges_shift_1 : decode prog_1_method_15_code 1 = .ok (.iconst 0, 1) := by decide +kernel
theorem d_MaskEdges_shift_2 : decode prog_1_method_15_code 2 = .ok (.iconst 3, 1) := by decide +kernel
theorem d_MaskEdges_shift_3 : decode prog_1_method_15_code 3 = .ok (.invokestatic 85, 3) := by decide +kernel
theorem d_MaskEdges_shift_6 : decode prog_1_method_15_code 6 = .ok (.ifCond .eq 14, 3) := by decide +kernel
theorem d_MaskEdges_shift_9 : decode prog_1_method_15_code 9 = .ok (.iload_n 2, 1) := by decide +kernel
theorem d_MaskEdges_shift_10 : decode prog_1_method_15_code 10 = .ok (.bipush (-6), 2) := by decide +kernel
theorem d_MaskEdges_shift_12 : decode prog_1_method_15_code 12 = .ok (.bipush 6, 2) := by decide +kernel
theorem d_MaskEdges_shift_14 : decode prog_1_method_15_code 14 = .ok (.invokestatic 85, 3) := by decide +kernel
theorem d_MaskEdges_shift_17 : decode prog_1_method_15_code 17 = .ok (.ifCond .ne 6, 3) := by decide +kernel
theorem d_MaskEdges_shift_20 : decode prog_1_method_15_code 20 = .ok (.bipush (-2), 2) := by decide +kernel
theorem d_MaskEdges_shift_22 : decode prog_1_method_15_code 22 = .ok (.ireturn, 1) := by decide +kernel
theorem d_MaskEdges_shift_23 : decode prog_1_method_15_code 23 = .ok (.aload_n 0, 1) := by decide +kernel
theorem d_MaskEdges_shift_24 : decode prog_1_method_15_code 24 = .ok (.getfield 61, 3) := by decide +kernel
theorem d_MaskEdges_shift_27 : decode prog_1_method_15_code 27 = .ok (.ifCond .ne 6, 3) := by decide +kernel
theorem d_MaskEdges_shift_30 : decode prog_1_method_15_code 30 = .ok (.bipush (-3), 2) := by decide +kernel
theorem d_MaskEdges_shift_32 : decode prog_1_method_15_code 32 = .ok (.ireturn, 1) := by decide +kernel
theorem d_MaskEdges_shift_33 : decode prog_1_method_15_code 33 = .ok (.iconst 0, 1) := by decide +kernel
theorem d_MaskEdges_shift_34 : decode prog_1_method_15_code 34 = .ok (.istore_n 3, 1) := by decide +kernel
theorem d_MaskEdges_shift_35 : decode prog_1_method_15_code 35 = .ok (.iconst 0, 1) := by decide +kernel
theorem d_MaskEdges_shift_36 : decode prog_1_method_15_code 36 = .ok (.istore 4, 2) := by decide +kernel
theorem d_MaskEdges_shift_38 : decode prog_1_method_15_code 38 = .ok (.iload 4, 2) := by decide +kernel
theorem d_MaskEdges_shift_40 : decode prog_1_method_15_code 40 = .ok (.aload_n 0, 1) := by decide +kernel
theorem d_MaskEdges_shift_41 : decode prog_1_method_15_code 41 = .ok (.getfield 61, 3) := by decide +kernel
theorem d_MaskEdges_shift_44 : decode prog_1_method_15_code 44 = .ok (.if_icmp .ge 47, 3) := by decide +kernel
theorem d_MaskEdges_shift_47 : decode prog_1_method_15_code 47 = .ok (.aload_n 0, 1) := by decide +kernel
theorem d_MaskEdges_shift_48 : decode prog_1_method_15_code 48 = .ok (.getfield 17, 3) := by decide +kernel
theorem d_MaskEdges_shift_51 : decode prog_1_method_15_code 51 = .ok (.iload 4, 2) := by decide +kernel
theorem d_MaskEdges_shift_53 : decode prog_1_method_15_code 53 = .ok (.aaload, 1) := by decide +kernel
theorem d_MaskEdges_shift_54 : decode prog_1_method_15_code 54 = .ok (.astore 5, 2) := by decide +kernel
theorem d_MaskEdges_shift_56 : decode prog_1_method_15_code 56 = .ok (.aload 5, 2) := by decide +kernel
theorem d_MaskEdges_shift_58 : decode prog_1_method_15_code 58 = .ok (.iload_n 1, 1) := by decide +kernel
theorem d_MaskEdges_shift_59 : decode prog_1_method_15_code 59 = .ok (.invokevirtual 174, 3) := by decide +kernel
theorem d_MaskEdges_shift_62 : decode prog_1_method_15_code 62 = .ok (.ifCond .eq 23, 3) := by decide +kernel
theorem d_MaskEdges_shift_65 : decode prog_1_method_15_code 65 = .ok (.aload 5, 2) := by decide +kernel
theorem d_MaskEdges_shift_67 : decode prog_1_method_15_code 67 = .ok (.aload 5, 2) := by decide +kernel
theorem d_MaskEdges_shift_69 : decode prog_1_method_15_code 69 = .ok (.getfield 133, 3) := by decide +kernel
theorem d_MaskEdges_shift_72 : decode prog_1_method_15_code 72 = .ok (.iload_n 2, 1) := by decide +kernel
theorem d_MaskEdges_shift_73 : decode prog_1_method_15_code 73 = .ok (.iadd, 1) := by decide +kernel
theorem d_MaskEdges_shift_74 : decode prog_1_method_15_code 74 = .ok (.bipush 6, 2) := by decide +kernel
theorem d_MaskEdges_shift_76 : decode prog_1_method_15_code 76 = .ok (.invokevirtual 177, 3) := by decide +kernel
theorem d_MaskEdges_shift_79 : decode prog_1_method_15_code 79 = .ok (.ifCond .eq 6, 3) := by decide +kernel
theorem d_MaskEdges_shift_82 : decode prog_1_method_15_code 82 = .ok (.iinc 3 1, 3) := by decide +kernel
theorem d_MaskEdges_shift_85 : decode prog_1_method_15_code 85 = .ok (.iinc 4 1, 3) := by decide +kernel
theorem d_MaskEdges_shift_88 : decode prog_1_method_15_code 88 = .ok (.goto (-50), 3) := by decide +kernel
theorem d_MaskEdges_shift_91 : decode prog_1_method_15_code 91 = .ok (.aload_n 0, 1) := by decide +kernel
theorem d_MaskEdges_shift_92 : decode prog_1_method_15_code 92 = .ok (.invokevirtual 82, 3) := by decide +kernel
theorem d_MaskEdges_shift_95 : decode prog_1_method_15_code 95 = .ok (.iload_n 3, 1) := by decide +kernel
theorem d_MaskEdges_shift_96 : decode prog_1_method_15_code 96 = .ok (.ireturn, 1) := by decide +kernel
theorem d_MaskEdges_is_0 : decode prog_1_method_16_code 0 = .ok (.iload_n 3, 1) := by decide +kernel
theorem d_MaskEdges_is_1 : decode prog_1_method_16_code 1 = .ok (.tableswitch 63 0 2 #[27, 37, 47], 27) := by decide +kernel
theorem d_MaskEdges_is_28 : decode prog_1_method_16_code 28 = .ok (.aload_n 0, 1) := by decide +kernel
theorem d_MaskEdges_is_29 : decode prog_1_method_16_code 29 = .ok (.getfield 34, 3) := by decide +kernel
theorem d_MaskEdges_is_32 : decode prog_1_method_16_code 32 = .ok (.iload_n 1, 1) := by decide +kernel
theorem d_MaskEdges_is_33 : decode prog_1_method_16_code 33 = .ok (.iload_n 2, 1) := by decide +kernel
theorem d_MaskEdges_is_34 : decode prog_1_method_16_code 34 = .ok (.invokevirtual 180, 3) := by decide +kernel
theorem d_MaskEdges_is_37 : decode prog_1_method_16_code 37 = .ok (.ireturn, 1) := by decide +kernel
theorem d_MaskEdges_is_38 : decode prog_1_method_16_code 38 = .ok (.aload_n 0, 1) := by decide +kernel
theorem d_MaskEdges_is_39 : decode prog_1_method_16_code 39 = .ok (.getfield 41, 3) := by decide +kernel
theorem d_MaskEdges_is_42 : decode prog_1_method_16_code 42 = .ok (.iload_n 1, 1) := by decide +kernel
theorem d_MaskEdges_is_43 : decode prog_1_method_16_code 43 = .ok (.iload_n 2, 1) := by decide +kernel
theorem d_MaskEdges_is_44 : decode prog_1_method_16_code 44 = .ok (.invokevirtual 180, 3) := by decide +kernel
theorem d_MaskEdges_is_47 : decode prog_1_method_16_code 47 = .ok (.ireturn, 1) := by decide +kernel
theorem d_MaskEdges_is_48 : decode prog_1_method_16_code 48 = .ok (.aload_n 0, 1) := by decide +kernel
theorem d_MaskEdges_is_49 : decode prog_1_method_16_code 49 = .ok (.getfield 47, 3) := by decide +kernel
theorem d_MaskEdges_is_52 : decode prog_1_method_16_code 52 = .ok (.aload_n 0, 1) := by decide +kernel
theorem d_MaskEdges_is_53 : decode prog_1_method_16_code 53 = .ok (.getfield 41, 3) := by decide +kernel
theorem d_MaskEdges_is_56 : decode prog_1_method_16_code 56 = .ok (.iload_n 1, 1) := by decide +kernel
theorem d_MaskEdges_is_57 : decode prog_1_method_16_code 57 = .ok (.iload_n 2, 1) := by decide +kernel
theorem d_MaskEdges_is_58 : decode prog_1_method_16_code 58 = .ok (.bipush 100, 2) := by decide +kernel
theorem d_MaskEdges_is_60 : decode prog_1_method_16_code 60 = .ok (.invokevirtual 159, 3) := by decide +kernel
theorem d_MaskEdges_is_63 : decode prog_1_method_16_code 63 = .ok (.ireturn, 1) := by decide +kernel
theorem d_MaskEdges_is_64 : decode prog_1_method_16_code 64 = .ok (.iconst 0, 1) := by decide +kernel
theorem d_MaskEdges_is_65 : decode prog_1_method_16_code 65 = .ok (.ireturn, 1) := by decide +kernel
theorem d_MaskEdges_within_0 : decode prog_1_method_17_code 0 = .ok (.iload_n 0, 1) := by decide +kernel
theorem d_MaskEdges_within_1 : decode prog_1_method_17_code 1 = .ok (.iload_n 1, 1) := by decide +kernel
theorem d_MaskEdges_within_2 : decode prog_1_method_17_code 2 = .ok (.if_icmp .lt 12, 3) := by decide +kernel
theorem d_MaskEdges_within_5 : decode prog_1_method_17_code 5 = .ok (.iload_n 0, 1) := by decide +kernel
theorem d_MaskEdges_within_6 : decode prog_1_method_17_code 6 = .ok (.iload_n 2, 1) := by decide +kernel
theorem d_MaskEdges_within_7 : decode prog_1_method_17_code 7 = .ok (.if_icmp .gt 7, 3) := by decide +kernel
theorem d_MaskEdges_within_10 : decode prog_1_method_17_code 10 = .ok (.iconst 1, 1) := by decide +kernel
theorem d_MaskEdges_within_11 : decode prog_1_method_17_code 11 = .ok (.goto 4, 3) := by decide +kernel
theorem d_MaskEdges_within_14 : decode prog_1_method_17_code 14 = .ok (.iconst 0, 1) := by decide +kernel
theorem d_MaskEdges_within_15 : decode prog_1_method_17_code 15 = .ok (.ireturn, 1) := by decide +kernel
theorem d_MaskEdges_onGrid_0 : decode prog_1_method_18_code 0 = .ok (.iload_n 0, 1) := by decide +kernel
theorem d_MaskEdges_onGrid_1 : decode prog_1_method_18_code 1 = .ok (.ifCond .lt 23, 3) := by decide +kernel
theorem d_MaskEdges_onGrid_4 : decode prog_1_method_18_code 4 = .ok (.iload_n 0, 1) := by decide +kernel
theorem d_MaskEdges_onGrid_5 : decode prog_1_method_18_code 5 = .ok (.bipush 48, 2) := by decide +kernel
theorem d_MaskEdges_onGrid_7 : decode prog_1_method_18_code 7 = .ok (.if_icmp .ge 17, 3) := by decide +kernel
theorem d_MaskEdges_onGrid_10 : decode prog_1_method_18_code 10 = .ok (.iload_n 1, 1) := by decide +kernel
theorem d_MaskEdges_onGrid_11 : decode prog_1_method_18_code 11 = .ok (.ifCond .lt 13, 3) := by decide +kernel
theorem d_MaskEdges_onGrid_14 : decode prog_1_method_18_code 14 = .ok (.iload_n 1, 1) := by decide +kernel
theorem d_MaskEdges_onGrid_15 : decode prog_1_method_18_code 15 = .ok (.bipush 48, 2) := by decide +kernel
theorem d_MaskEdges_onGrid_17 : decode prog_1_method_18_code 17 = .ok (.if_icmp .ge 7, 3) := by decide +kernel
theorem d_MaskEdges_onGrid_20 : decode prog_1_method_18_code 20 = .ok (.iconst 1, 1) := by decide +kernel
theorem d_MaskEdges_onGrid_21 : decode prog_1_method_18_code 21 = .ok (.goto 4, 3) := by decide +kernel
theorem d_MaskEdges_onGrid_24 : decode prog_1_method_18_code 24 = .ok (.iconst 0, 1) := by decide +kernel
theorem d_MaskEdges_onGrid_25 : decode prog_1_method_18_code 25 = .ok (.ireturn, 1) := by decide +kernel
theorem d_MaskEdges_clamp_0 : decode prog_1_method_19_code 0 = .ok (.iload_n 1, 1) := by decide +kernel
theorem d_MaskEdges_clamp_1 : decode prog_1_method_19_code 1 = .ok (.ineg, 1) := by decide +kernel
theorem d_MaskEdges_clamp_2 : decode prog_1_method_19_code 2 = .ok (.iload_n 1, 1) := by decide +kernel
theorem d_MaskEdges_clamp_3 : decode prog_1_method_19_code 3 = .ok (.iload_n 0, 1) := by decide +kernel
theorem d_MaskEdges_clamp_4 : decode prog_1_method_19_code 4 = .ok (.invokestatic 183, 3) := by decide +kernel
theorem d_MaskEdges_clamp_7 : decode prog_1_method_19_code 7 = .ok (.invokestatic 188, 3) := by decide +kernel
theorem d_MaskEdges_clamp_10 : decode prog_1_method_19_code 10 = .ok (.ireturn, 1) := by decide +kernel
theorem d_MaskEdges_columnBits_0 : decode prog_1_method_20_code 0 = .ok (.iload_n 0, 1) := by decide +kernel
theorem d_MaskEdges_columnBits_1 : decode prog_1_method_20_code 1 = .ok (.ifCond .le 7, 3) := by decide +kernel
theorem d_MaskEdges_columnBits_4 : decode prog_1_method_20_code 4 = .ok (.iload_n 0, 1) := by decide +kernel
theorem d_MaskEdges_columnBits_5 : decode prog_1_method_20_code 5 = .ok (.goto 4, 3) := by decide +kernel
theorem d_MaskEdges_columnBits_8 : decode prog_1_method_20_code 8 = .ok (.iconst 0, 1) := by decide +kernel
theorem d_MaskEdges_columnBits_9 : decode prog_1_method_20_code 9 = .ok (.istore_n 2, 1) := by decide +kernel
theorem d_MaskEdges_columnBits_10 : decode prog_1_method_20_code 10 = .ok (.iload_n 1, 1) := by decide +kernel
theorem d_MaskEdges_columnBits_11 : decode prog_1_method_20_code 11 = .ok (.bipush 48, 2) := by decide +kernel
theorem d_MaskEdges_columnBits_13 : decode prog_1_method_20_code 13 = .ok (.if_icmp .ge 7, 3) := by decide +kernel
theorem d_MaskEdges_columnBits_16 : decode prog_1_method_20_code 16 = .ok (.iload_n 1, 1) := by decide +kernel
theorem d_MaskEdges_columnBits_17 : decode prog_1_method_20_code 17 = .ok (.goto 5, 3) := by decide +kernel
theorem d_MaskEdges_columnBits_20 : decode prog_1_method_20_code 20 = .ok (.bipush 48, 2) := by decide +kernel
theorem d_MaskEdges_columnBits_22 : decode prog_1_method_20_code 22 = .ok (.istore_n 3, 1) := by decide +kernel
theorem d_MaskEdges_columnBits_23 : decode prog_1_method_20_code 23 = .ok (.iload_n 2, 1) := by decide +kernel
theorem d_MaskEdges_columnBits_24 : decode prog_1_method_20_code 24 = .ok (.iload_n 3, 1) := by decide +kernel
theorem d_MaskEdges_columnBits_25 : decode prog_1_method_20_code 25 = .ok (.if_icmp .ge 13, 3) := by decide +kernel
theorem d_MaskEdges_columnBits_28 : decode prog_1_method_20_code 28 = .ok (.lconst 1, 1) := by decide +kernel
theorem d_MaskEdges_columnBits_29 : decode prog_1_method_20_code 29 = .ok (.iload_n 3, 1) := by decide +kernel
theorem d_MaskEdges_columnBits_30 : decode prog_1_method_20_code 30 = .ok (.lshl, 1) := by decide +kernel
theorem d_MaskEdges_columnBits_31 : decode prog_1_method_20_code 31 = .ok (.lconst 1, 1) := by decide +kernel
theorem d_MaskEdges_columnBits_32 : decode prog_1_method_20_code 32 = .ok (.iload_n 2, 1) := by decide +kernel
theorem d_MaskEdges_columnBits_33 : decode prog_1_method_20_code 33 = .ok (.lshl, 1) := by decide +kernel
theorem d_MaskEdges_columnBits_34 : decode prog_1_method_20_code 34 = .ok (.lsub, 1) := by decide +kernel
theorem d_MaskEdges_columnBits_35 : decode prog_1_method_20_code 35 = .ok (.goto 4, 3) := by decide +kernel
theorem d_MaskEdges_columnBits_38 : decode prog_1_method_20_code 38 = .ok (.lconst 0, 1) := by decide +kernel
theorem d_MaskEdges_columnBits_39 : decode prog_1_method_20_code 39 = .ok (.lreturn, 1) := by decide +kernel
theorem d_MaskEdges_isPiece_0 : decode prog_1_method_21_code 0 = .ok (.iload_n 1, 1) := by decide +kernel
theorem d_MaskEdges_isPiece_1 : decode prog_1_method_21_code 1 = .ok (.ifCond .lt 15, 3) := by decide +kernel
theorem d_MaskEdges_isPiece_4 : decode prog_1_method_21_code 4 = .ok (.iload_n 1, 1) := by decide +kernel
theorem d_MaskEdges_isPiece_5 : decode prog_1_method_21_code 5 = .ok (.aload_n 0, 1) := by decide +kernel
theorem d_MaskEdges_isPiece_6 : decode prog_1_method_21_code 6 = .ok (.getfield 61, 3) := by decide +kernel
theorem d_MaskEdges_isPiece_9 : decode prog_1_method_21_code 9 = .ok (.if_icmp .ge 7, 3) := by decide +kernel
theorem d_MaskEdges_isPiece_12 : decode prog_1_method_21_code 12 = .ok (.iconst 1, 1) := by decide +kernel
theorem d_MaskEdges_isPiece_13 : decode prog_1_method_21_code 13 = .ok (.goto 4, 3) := by decide +kernel
theorem d_MaskEdges_isPiece_16 : decode prog_1_method_21_code 16 = .ok (.iconst 0, 1) := by decide +kernel
theorem d_MaskEdges_isPiece_17 : decode prog_1_method_21_code 17 = .ok (.ireturn, 1) := by decide +kernel
theorem d_MaskEdges_addToTarget_0 : decode prog_1_method_22_code 0 = .ok (.iconst 0, 1) := by decide +kernel
theorem d_MaskEdges_addToTarget_1 : decode prog_1_method_22_code 1 = .ok (.istore_n 2, 1) := by decide +kernel
theorem d_MaskEdges_addToTarget_2 : decode prog_1_method_22_code 2 = .ok (.iload_n 2, 1) := by decide +kernel
theorem d_MaskEdges_addToTarget_3 : decode prog_1_method_22_code 3 = .ok (.bipush 48, 2) := by decide +kernel
theorem d_MaskEdges_addToTarget_5 : decode prog_1_method_22_code 5 = .ok (.if_icmp .ge 41, 3) := by decide +kernel
theorem d_MaskEdges_addToTarget_8 : decode prog_1_method_22_code 8 = .ok (.iconst 0, 1) := by decide +kernel
theorem d_MaskEdges_addToTarget_9 : decode prog_1_method_22_code 9 = .ok (.istore_n 3, 1) := by decide +kernel
theorem d_MaskEdges_addToTarget_10 : decode prog_1_method_22_code 10 = .ok (.iload_n 3, 1) := by decide +kernel
theorem d_MaskEdges_addToTarget_11 : decode prog_1_method_22_code 11 = .ok (.bipush 48, 2) := by decide +kernel
theorem d_MaskEdges_addToTarget_13 : decode prog_1_method_22_code 13 = .ok (.if_icmp .ge 27, 3) := by decide +kernel
theorem d_MaskEdges_addToTarget_16 : decode prog_1_method_22_code 16 = .ok (.aload_n 1, 1) := by decide +kernel
theorem d_MaskEdges_addToTarget_17 : decode prog_1_method_22_code 17 = .ok (.iload_n 3, 1) := by decide +kernel
theorem d_MaskEdges_addToTarget_18 : decode prog_1_method_22_code 18 = .ok (.iload_n 2, 1) := by decide +kernel
theorem d_MaskEdges_addToTarget_19 : decode prog_1_method_22_code 19 = .ok (.invokevirtual 191, 3) := by decide +kernel
theorem d_MaskEdges_addToTarget_22 : decode prog_1_method_22_code 22 = .ok (.ifCond .eq 12, 3) := by decide +kernel
theorem d_MaskEdges_addToTarget_25 : decode prog_1_method_22_code 25 = .ok (.aload_n 0, 1) := by decide +kernel
theorem d_MaskEdges_addToTarget_26 : decode prog_1_method_22_code 26 = .ok (.getfield 34, 3) := by decide +kernel
theorem d_MaskEdges_addToTarget_29 : decode prog_1_method_22_code 29 = .ok (.iload_n 3, 1) := by decide +kernel
theorem d_MaskEdges_addToTarget_30 : decode prog_1_method_22_code 30 = .ok (.iload_n 2, 1) := by decide +kernel
theorem d_MaskEdges_addToTarget_31 : decode prog_1_method_22_code 31 = .ok (.invokevirtual 194, 3) := by decide +kernel
theorem d_MaskEdges_addToTarget_34 : decode prog_1_method_22_code 34 = .ok (.iinc 3 1, 3) := by decide +kernel
theorem d_MaskEdges_addToTarget_37 : decode prog_1_method_22_code 37 = .ok (.goto (-27), 3) := by decide +kernel
theorem d_MaskEdges_addToTarget_40 : decode prog_1_method_22_code 40 = .ok (.iinc 2 1, 3) := by decide +kernel
theorem d_MaskEdges_addToTarget_43 : decode prog_1_method_22_code 43 = .ok (.goto (-41), 3) := by decide +kernel
theorem d_MaskEdges_addToTarget_46 : decode prog_1_method_22_code 46 = .ok (.return_, 1) := by decide +kernel
theorem d_MaskEdges_renewMask_0 : decode prog_1_method_23_code 0 = .ok (.aload_n 0, 1) := by decide +kernel
theorem d_MaskEdges_renewMask_1 : decode prog_1_method_23_code 1 = .ok (.getfield 41, 3) := by decide +kernel
theorem d_MaskEdges_renewMask_4 : decode prog_1_method_23_code 4 = .ok (.aload_n 0, 1) := by decide +kernel
theorem d_MaskEdges_renewMask_5 : decode prog_1_method_23_code 5 = .ok (.getfield 34, 3) := by decide +kernel
theorem d_MaskEdges_renewMask_8 : decode prog_1_method_23_code 8 = .ok (.invokevirtual 198, 3) := by decide +kernel
theorem d_MaskEdges_renewMask_11 : decode prog_1_method_23_code 11 = .ok (.iconst 0, 1) := by decide +kernel
theorem d_MaskEdges_renewMask_12 : decode prog_1_method_23_code 12 = .ok (.istore_n 1, 1) := by decide +kernel
theorem d_MaskEdges_renewMask_13 : decode prog_1_method_23_code 13 = .ok (.iload_n 1, 1) := by decide +kernel
theorem d_MaskEdges_renewMask_14 : decode prog_1_method_23_code 14 = .ok (.aload_n 0, 1) := by decide +kernel
theorem d_MaskEdges_renewMask_15 : decode prog_1_method_23_code 15 = .ok (.getfield 61, 3) := by decide +kernel
theorem d_MaskEdges_renewMask_18 : decode prog_1_method_23_code 18 = .ok (.if_icmp .ge 19, 3) := by decide +kernel
theorem d_MaskEdges_renewMask_21 : decode prog_1_method_23_code 21 = .ok (.aload_n 0, 1) := by decide +kernel
theorem d_MaskEdges_renewMask_22 : decode prog_1_method_23_code 22 = .ok (.aload_n 0, 1) := by decide +kernel
theorem d_MaskEdges_renewMask_23 : decode prog_1_method_23_code 23 = .ok (.getfield 17, 3) := by decide +kernel
theorem d_MaskEdges_renewMask_26 : decode prog_1_method_23_code 26 = .ok (.iload_n 1, 1) := by decide +kernel
theorem d_MaskEdges_renewMask_27 : decode prog_1_method_23_code 27 = .ok (.aaload, 1) := by decide +kernel
theorem d_MaskEdges_renewMask_28 : decode prog_1_method_23_code 28 = .ok (.invokevirtual 202, 3) := by decide +kernel
theorem d_MaskEdges_renewMask_31 : decode prog_1_method_23_code 31 = .ok (.iinc 1 1, 3) := by decide +kernel
theorem d_MaskEdges_renewMask_34 : decode prog_1_method_23_code 34 = .ok (.goto (-21), 3) := by decide +kernel
theorem d_MaskEdges_renewMask_37 : decode prog_1_method_23_code 37 = .ok (.aload_n 0, 1) := by decide +kernel
theorem d_MaskEdges_renewMask_38 : decode prog_1_method_23_code 38 = .ok (.getfield 41, 3) := by decide +kernel
theorem d_MaskEdges_renewMask_41 : decode prog_1_method_23_code 41 = .ok (.aload_n 0, 1) := by decide +kernel
theorem d_MaskEdges_renewMask_42 : decode prog_1_method_23_code 42 = .ok (.getfield 38, 3) := by decide +kernel
theorem d_MaskEdges_renewMask_45 : decode prog_1_method_23_code 45 = .ok (.invokevirtual 206, 3) := by decide +kernel
theorem d_MaskEdges_renewMask_48 : decode prog_1_method_23_code 48 = .ok (.return_, 1) := by decide +kernel
theorem d_MaskEdges_applyMove_0 : decode prog_1_method_24_code 0 = .ok (.aload_n 1, 1) := by decide +kernel
theorem d_MaskEdges_applyMove_1 : decode prog_1_method_24_code 1 = .ok (.getfield 133, 3) := by decide +kernel
theorem d_MaskEdges_applyMove_4 : decode prog_1_method_24_code 4 = .ok (.ifCond .le 42, 3) := by decide +kernel
theorem d_MaskEdges_applyMove_7 : decode prog_1_method_24_code 7 = .ok (.aload_n 0, 1) := by decide +kernel
theorem d_MaskEdges_applyMove_8 : decode prog_1_method_24_code 8 = .ok (.getfield 55, 3) := by decide +kernel
theorem d_MaskEdges_applyMove_11 : decode prog_1_method_24_code 11 = .ok (.aload_n 1, 1) := by decide +kernel
theorem d_MaskEdges_applyMove_12 : decode prog_1_method_24_code 12 = .ok (.aload_n 1, 1) := by decide +kernel
theorem d_MaskEdges_applyMove_13 : decode prog_1_method_24_code 13 = .ok (.getfield 209, 3) := by decide +kernel
theorem d_MaskEdges_applyMove_16 : decode prog_1_method_24_code 16 = .ok (.aload_n 1, 1) := by decide +kernel
theorem d_MaskEdges_applyMove_17 : decode prog_1_method_24_code 17 = .ok (.getfield 212, 3) := by decide +kernel
theorem d_MaskEdges_applyMove_20 : decode prog_1_method_24_code 20 = .ok (.aload_n 1, 1) := by decide +kernel
theorem d_MaskEdges_applyMove_21 : decode prog_1_method_24_code 21 = .ok (.getfield 215, 3) := by decide +kernel
theorem d_MaskEdges_applyMove_24 : decode prog_1_method_24_code 24 = .ok (.iconst 0, 1) := by decide +kernel
theorem d_MaskEdges_applyMove_25 : decode prog_1_method_24_code 25 = .ok (.aload_n 1, 1) := by decide +kernel
theorem d_MaskEdges_applyMove_26 : decode prog_1_method_24_code 26 = .ok (.getfield 133, 3) := by decide +kernel
theorem d_MaskEdges_applyMove_29 : decode prog_1_method_24_code 29 = .ok (.invokevirtual 218, 3) := by decide +kernel
theorem d_MaskEdges_applyMove_32 : decode prog_1_method_24_code 32 = .ok (.aload_n 0, 1) := by decide +kernel
theorem d_MaskEdges_applyMove_33 : decode prog_1_method_24_code 33 = .ok (.getfield 41, 3) := by decide +kernel
theorem d_MaskEdges_applyMove_36 : decode prog_1_method_24_code 36 = .ok (.aload_n 0, 1) := by decide +kernel
theorem d_MaskEdges_applyMove_37 : decode prog_1_method_24_code 37 = .ok (.getfield 55, 3) := by decide +kernel
theorem d_MaskEdges_applyMove_40 : decode prog_1_method_24_code 40 = .ok (.invokevirtual 222, 3) := by decide +kernel
theorem d_MaskEdges_applyMove_43 : decode prog_1_method_24_code 43 = .ok (.goto 48, 3) := by decide +kernel
theorem d_MaskEdges_applyMove_46 : decode prog_1_method_24_code 46 = .ok (.aload_n 1, 1) := by decide +kernel
theorem d_MaskEdges_applyMove_47 : decode prog_1_method_24_code 47 = .ok (.getfield 133, 3) := by decide +kernel
theorem d_MaskEdges_applyMove_50 : decode prog_1_method_24_code 50 = .ok (.ifCond .ge 41, 3) := by decide +kernel
theorem d_MaskEdges_applyMove_53 : decode prog_1_method_24_code 53 = .ok (.aload_n 0, 1) := by decide +kernel
theorem d_MaskEdges_applyMove_54 : decode prog_1_method_24_code 54 = .ok (.getfield 55, 3) := by decide +kernel
theorem d_MaskEdges_applyMove_57 : decode prog_1_method_24_code 57 = .ok (.aload_n 1, 1) := by decide +kernel
theorem d_MaskEdges_applyMove_58 : decode prog_1_method_24_code 58 = .ok (.aload_n 1, 1) := by decide +kernel
theorem d_MaskEdges_applyMove_59 : decode prog_1_method_24_code 59 = .ok (.getfield 209, 3) := by decide +kernel
theorem d_MaskEdges_applyMove_62 : decode prog_1_method_24_code 62 = .ok (.aload_n 1, 1) := by decide +kernel
theorem d_MaskEdges_applyMove_63 : decode prog_1_method_24_code 63 = .ok (.getfield 212, 3) := by decide +kernel
theorem d_MaskEdges_applyMove_66 : decode prog_1_method_24_code 66 = .ok (.aload_n 1, 1) := by decide +kernel
theorem d_MaskEdges_applyMove_67 : decode prog_1_method_24_code 67 = .ok (.getfield 215, 3) := by decide +kernel
theorem d_MaskEdges_applyMove_70 : decode prog_1_method_24_code 70 = .ok (.ineg, 1) := by decide +kernel
theorem d_MaskEdges_applyMove_71 : decode prog_1_method_24_code 71 = .ok (.iconst 0, 1) := by decide +kernel
theorem d_MaskEdges_applyMove_72 : decode prog_1_method_24_code 72 = .ok (.aload_n 1, 1) := by decide +kernel
theorem d_MaskEdges_applyMove_73 : decode prog_1_method_24_code 73 = .ok (.getfield 133, 3) := by decide +kernel
theorem d_MaskEdges_applyMove_76 : decode prog_1_method_24_code 76 = .ok (.ineg, 1) := by decide +kernel
theorem d_MaskEdges_applyMove_77 : decode prog_1_method_24_code 77 = .ok (.invokevirtual 218, 3) := by decide +kernel
theorem d_MaskEdges_applyMove_80 : decode prog_1_method_24_code 80 = .ok (.aload_n 0, 1) := by decide +kernel
theorem d_MaskEdges_applyMove_81 : decode prog_1_method_24_code 81 = .ok (.getfield 41, 3) := by decide +kernel
theorem d_MaskEdges_applyMove_84 : decode prog_1_method_24_code 84 = .ok (.aload_n 0, 1) := by decide +kernel
theorem d_MaskEdges_applyMove_85 : decode prog_1_method_24_code 85 = .ok (.getfield 55, 3) := by decide +kernel
theorem d_MaskEdges_applyMove_88 : decode prog_1_method_24_code 88 = .ok (.invokevirtual 226, 3) := by decide +kernel
theorem d_MaskEdges_applyMove_91 : decode prog_1_method_24_code 91 = .ok (.return_, 1) := by decide +kernel
theorem d_MaskEdges_piecesFor_0 : decode prog_1_method_25_code 0 = .ok (.iconst 0, 1) := by decide +kernel
theorem d_MaskEdges_piecesFor_1 : decode prog_1_method_25_code 1 = .ok (.istore_n 2, 1) := by decide +kernel
theorem d_MaskEdges_piecesFor_2 : decode prog_1_method_25_code 2 = .ok (.iconst 0, 1) := by decide +kernel
theorem d_MaskEdges_piecesFor_3 : decode prog_1_method_25_code 3 = .ok (.istore_n 3, 1) := by decide +kernel
theorem d_MaskEdges_piecesFor_4 : decode prog_1_method_25_code 4 = .ok (.iload_n 3, 1) := by decide +kernel
theorem d_MaskEdges_piecesFor_5 : decode prog_1_method_25_code 5 = .ok (.aload_n 0, 1) := by decide +kernel
theorem d_MaskEdges_piecesFor_6 : decode prog_1_method_25_code 6 = .ok (.getfield 65, 3) := by decide +kernel
theorem d_MaskEdges_piecesFor_9 : decode prog_1_method_25_code 9 = .ok (.if_icmp .ge 55, 3) := by decide +kernel
theorem d_MaskEdges_piecesFor_12 : decode prog_1_method_25_code 12 = .ok (.aload_n 0, 1) := by decide +kernel
theorem d_MaskEdges_piecesFor_13 : decode prog_1_method_25_code 13 = .ok (.getfield 11, 3) := by decide +kernel
theorem d_MaskEdges_piecesFor_16 : decode prog_1_method_25_code 16 = .ok (.iload_n 3, 1) := by decide +kernel
theorem d_MaskEdges_piecesFor_17 : decode prog_1_method_25_code 17 = .ok (.aaload, 1) := by decide +kernel
theorem d_MaskEdges_piecesFor_18 : decode prog_1_method_25_code 18 = .ok (.astore 4, 2) := by decide +kernel
theorem d_MaskEdges_piecesFor_20 : decode prog_1_method_25_code 20 = .ok (.iconst 0, 1) := by decide +kernel
theorem d_MaskEdges_piecesFor_21 : decode prog_1_method_25_code 21 = .ok (.istore 5, 2) := by decide +kernel
theorem d_MaskEdges_piecesFor_23 : decode prog_1_method_25_code 23 = .ok (.aload 4, 2) := by decide +kernel
theorem d_MaskEdges_piecesFor_25 : decode prog_1_method_25_code 25 = .ok (.getfield 74, 3) := by decide +kernel
theorem d_MaskEdges_piecesFor_28 : decode prog_1_method_25_code 28 = .ok (.ifCond .eq 30, 3) := by decide +kernel
theorem d_MaskEdges_piecesFor_31 : decode prog_1_method_25_code 31 = .ok (.iload 5, 2) := by decide +kernel
theorem d_MaskEdges_piecesFor_33 : decode prog_1_method_25_code 33 = .ok (.aload 4, 2) := by decide +kernel
theorem d_MaskEdges_piecesFor_35 : decode prog_1_method_25_code 35 = .ok (.getfield 229, 3) := by decide +kernel
theorem d_MaskEdges_piecesFor_38 : decode prog_1_method_25_code 38 = .ok (.if_icmp .ge 20, 3) := by decide +kernel
theorem d_MaskEdges_piecesFor_41 : decode prog_1_method_25_code 41 = .ok (.iload_n 2, 1) := by decide +kernel
theorem d_MaskEdges_piecesFor_42 : decode prog_1_method_25_code 42 = .ok (.aload 4, 2) := by decide +kernel
theorem d_MaskEdges_piecesFor_44 : decode prog_1_method_25_code 44 = .ok (.iload 5, 2) := by decide +kernel
theorem d_MaskEdges_piecesFor_46 : decode prog_1_method_25_code 46 = .ok (.iload_n 1, 1) := by decide +kernel
theorem d_MaskEdges_piecesFor_47 : decode prog_1_method_25_code 47 = .ok (.invokevirtual 232, 3) := by decide +kernel
theorem d_MaskEdges_piecesFor_50 : decode prog_1_method_25_code 50 = .ok (.iadd, 1) := by decide +kernel
theorem d_MaskEdges_piecesFor_51 : decode prog_1_method_25_code 51 = .ok (.istore_n 2, 1) := by decide +kernel
theorem d_MaskEdges_piecesFor_52 : decode prog_1_method_25_code 52 = .ok (.iinc 5 1, 3) := by decide +kernel
theorem d_MaskEdges_piecesFor_55 : decode prog_1_method_25_code 55 = .ok (.goto (-32), 3) := by decide +kernel
theorem d_MaskEdges_piecesFor_58 : decode prog_1_method_25_code 58 = .ok (.iinc 3 1, 3) := by decide +kernel
theorem d_MaskEdges_piecesFor_61 : decode prog_1_method_25_code 61 = .ok (.goto (-57), 3) := by decide +kernel
theorem d_MaskEdges_piecesFor_64 : decode prog_1_method_25_code 64 = .ok (.iload_n 2, 1) := by decide +kernel
theorem d_MaskEdges_piecesFor_65 : decode prog_1_method_25_code 65 = .ok (.ireturn, 1) := by decide +kernel
theorem d_MaskEdges_cutOutline_0 : decode prog_1_method_26_code 0 = .ok (.iconst 0, 1) := by decide +kernel
theorem d_MaskEdges_cutOutline_1 : decode prog_1_method_26_code 1 = .ok (.istore_n 3, 1) := by decide +kernel
theorem d_MaskEdges_cutOutline_2 : decode prog_1_method_26_code 2 = .ok (.aload_n 1, 1) := by decide +kernel
theorem d_MaskEdges_cutOutline_3 : decode prog_1_method_26_code 3 = .ok (.getfield 74, 3) := by decide +kernel
theorem d_MaskEdges_cutOutline_6 : decode prog_1_method_26_code 6 = .ok (.ifCond .eq 78, 3) := by decide +kernel
theorem d_MaskEdges_cutOutline_9 : decode prog_1_method_26_code 9 = .ok (.iload_n 3, 1) := by decide +kernel
theorem d_MaskEdges_cutOutline_10 : decode prog_1_method_26_code 10 = .ok (.aload_n 1, 1) := by decide +kernel
theorem d_MaskEdges_cutOutline_11 : decode prog_1_method_26_code 11 = .ok (.getfield 229, 3) := by decide +kernel
theorem d_MaskEdges_cutOutline_14 : decode prog_1_method_26_code 14 = .ok (.if_icmp .ge 70, 3) := by decide +kernel
theorem d_MaskEdges_cutOutline_17 : decode prog_1_method_26_code 17 = .ok (.aload_n 1, 1) := by decide +kernel
theorem d_MaskEdges_cutOutline_18 : decode prog_1_method_26_code 18 = .ok (.iload_n 3, 1) := by decide +kernel
theorem d_MaskEdges_cutOutline_19 : decode prog_1_method_26_code 19 = .ok (.iload_n 2, 1) := by decide +kernel
theorem d_MaskEdges_cutOutline_20 : decode prog_1_method_26_code 20 = .ok (.invokevirtual 232, 3) := by decide +kernel
theorem d_MaskEdges_cutOutline_23 : decode prog_1_method_26_code 23 = .ok (.istore 4, 2) := by decide +kernel
theorem d_MaskEdges_cutOutline_25 : decode prog_1_method_26_code 25 = .ok (.iconst 0, 1) := by decide +kernel
theorem d_MaskEdges_cutOutline_26 : decode prog_1_method_26_code 26 = .ok (.istore 5, 2) := by decide +kernel
theorem d_MaskEdges_cutOutline_28 : decode prog_1_method_26_code 28 = .ok (.iload 5, 2) := by decide +kernel
theorem d_MaskEdges_cutOutline_30 : decode prog_1_method_26_code 30 = .ok (.iload 4, 2) := by decide +kernel
theorem d_MaskEdges_cutOutline_32 : decode prog_1_method_26_code 32 = .ok (.if_icmp .ge 46, 3) := by decide +kernel
theorem d_MaskEdges_cutOutline_35 : decode prog_1_method_26_code 35 = .ok (.aload_n 0, 1) := by decide +kernel
theorem d_MaskEdges_cutOutline_36 : decode prog_1_method_26_code 36 = .ok (.getfield 61, 3) := by decide +kernel
theorem d_MaskEdges_cutOutline_39 : decode prog_1_method_26_code 39 = .ok (.bipush 120, 2) := by decide +kernel
theorem d_MaskEdges_cutOutline_41 : decode prog_1_method_26_code 41 = .ok (.if_icmp .ge 37, 3) := by decide +kernel
theorem d_MaskEdges_cutOutline_44 : decode prog_1_method_26_code 44 = .ok (.aload_n 0, 1) := by decide +kernel
theorem d_MaskEdges_cutOutline_45 : decode prog_1_method_26_code 45 = .ok (.getfield 17, 3) := by decide +kernel
theorem d_MaskEdges_cutOutline_48 : decode prog_1_method_26_code 48 = .ok (.aload_n 0, 1) := by decide +kernel
theorem d_MaskEdges_cutOutline_49 : decode prog_1_method_26_code 49 = .ok (.getfield 61, 3) := by decide +kernel
theorem d_MaskEdges_cutOutline_52 : decode prog_1_method_26_code 52 = .ok (.aaload, 1) := by decide +kernel
theorem d_MaskEdges_cutOutline_53 : decode prog_1_method_26_code 53 = .ok (.aload_n 1, 1) := by decide +kernel
theorem d_MaskEdges_cutOutline_54 : decode prog_1_method_26_code 54 = .ok (.iload_n 3, 1) := by decide +kernel
theorem d_MaskEdges_cutOutline_55 : decode prog_1_method_26_code 55 = .ok (.iload 5, 2) := by decide +kernel
theorem d_MaskEdges_cutOutline_57 : decode prog_1_method_26_code 57 = .ok (.iload 4, 2) := by decide +kernel
theorem d_MaskEdges_cutOutline_59 : decode prog_1_method_26_code 59 = .ok (.invokevirtual 235, 3) := by decide +kernel
theorem d_MaskEdges_cutOutline_62 : decode prog_1_method_26_code 62 = .ok (.aload_n 0, 1) := by decide +kernel
theorem d_MaskEdges_cutOutline_63 : decode prog_1_method_26_code 63 = .ok (.dup, 1) := by decide +kernel
theorem d_MaskEdges_cutOutline_64 : decode prog_1_method_26_code 64 = .ok (.getfield 61, 3) := by decide +kernel
theorem d_MaskEdges_cutOutline_67 : decode prog_1_method_26_code 67 = .ok (.iconst 1, 1) := by decide +kernel
theorem d_MaskEdges_cutOutline_68 : decode prog_1_method_26_code 68 = .ok (.iadd, 1) := by decide +kernel
theorem d_MaskEdges_cutOutline_69 : decode prog_1_method_26_code 69 = .ok (.putfield 61, 3) := by decide +kernel
theorem d_MaskEdges_cutOutline_72 : decode prog_1_method_26_code 72 = .ok (.iinc 5 1, 3) := by decide +kernel
theorem d_MaskEdges_cutOutline_75 : decode prog_1_method_26_code 75 = .ok (.goto (-47), 3) := by decide +kernel
theorem d_MaskEdges_cutOutline_78 : decode prog_1_method_26_code 78 = .ok (.iinc 3 1, 3) := by decide +kernel
theorem d_MaskEdges_cutOutline_81 : decode prog_1_method_26_code 81 = .ok (.goto (-79), 3) := by decide +kernel
theorem d_MaskEdges_cutOutline_84 : decode prog_1_method_26_code 84 = .ok (.return_, 1) := by decide +kernel
theorem d_MaskEdges_errorOf_0 : decode prog_1_method_27_code 0 = .ok (.aload_n 1, 1) := by decide +kernel
theorem d_MaskEdges_errorOf_1 : decode prog_1_method_27_code 1 = .ok (.invokevirtual 163, 3) := by decide +kernel
theorem d_MaskEdges_errorOf_4 : decode prog_1_method_27_code 4 = .ok (.ifCond .eq 5, 3) := by decide +kernel
theorem d_MaskEdges_errorOf_7 : decode prog_1_method_27_code 7 = .ok (.iconst 0, 1) := by decide +kernel
theorem d_MaskEdges_errorOf_8 : decode prog_1_method_27_code 8 = .ok (.ireturn, 1) := by decide +kernel
theorem d_MaskEdges_errorOf_9 : decode prog_1_method_27_code 9 = .ok (.aload_n 0, 1) := by decide +kernel
theorem d_MaskEdges_errorOf_10 : decode prog_1_method_27_code 10 = .ok (.getfield 47, 3) := by decide +kernel
theorem d_MaskEdges_errorOf_13 : decode prog_1_method_27_code 13 = .ok (.aload_n 0, 1) := by decide +kernel
theorem d_MaskEdges_errorOf_14 : decode prog_1_method_27_code 14 = .ok (.getfield 41, 3) := by decide +kernel
theorem d_MaskEdges_errorOf_17 : decode prog_1_method_27_code 17 = .ok (.aload_n 1, 1) := by decide +kernel
theorem d_MaskEdges_errorOf_18 : decode prog_1_method_27_code 18 = .ok (.getfield 239, 3) := by decide +kernel
theorem d_MaskEdges_errorOf_21 : decode prog_1_method_27_code 21 = .ok (.aload_n 1, 1) := by decide +kernel
theorem d_MaskEdges_errorOf_22 : decode prog_1_method_27_code 22 = .ok (.getfield 242, 3) := by decide +kernel
theorem d_MaskEdges_errorOf_25 : decode prog_1_method_27_code 25 = .ok (.iload_n 2, 1) := by decide +kernel
theorem d_MaskEdges_errorOf_26 : decode prog_1_method_27_code 26 = .ok (.invokevirtual 159, 3) := by decide +kernel
theorem d_MaskEdges_errorOf_29 : decode prog_1_method_27_code 29 = .ok (.istore_n 3, 1) := by decide +kernel
theorem d_MaskEdges_errorOf_30 : decode prog_1_method_27_code 30 = .ok (.iload_n 3, 1) := by decide +kernel
theorem d_MaskEdges_errorOf_31 : decode prog_1_method_27_code 31 = .ok (.ifCond .eq 10, 3) := by decide +kernel
theorem d_MaskEdges_errorOf_34 : decode prog_1_method_27_code 34 = .ok (.aload_n 1, 1) := by decide +kernel
theorem d_MaskEdges_errorOf_35 : decode prog_1_method_27_code 35 = .ok (.getfield 215, 3) := by decide +kernel
theorem d_MaskEdges_errorOf_38 : decode prog_1_method_27_code 38 = .ok (.goto 8, 3) := by decide +kernel
theorem d_MaskEdges_errorOf_41 : decode prog_1_method_27_code 41 = .ok (.aload_n 1, 1) := by decide +kernel
theorem d_MaskEdges_errorOf_42 : decode prog_1_method_27_code 42 = .ok (.getfield 215, 3) := by decide +kernel
theorem d_MaskEdges_errorOf_45 : decode prog_1_method_27_code 45 = .ok (.ineg, 1) := by decide +kernel
theorem d_MaskEdges_errorOf_46 : decode prog_1_method_27_code 46 = .ok (.istore 4, 2) := by decide +kernel
theorem d_MaskEdges_errorOf_48 : decode prog_1_method_27_code 48 = .ok (.aload_n 1, 1) := by decide +kernel
theorem d_MaskEdges_errorOf_49 : decode prog_1_method_27_code 49 = .ok (.getfield 245, 3) := by decide +kernel
theorem d_MaskEdges_errorOf_52 : decode prog_1_method_27_code 52 = .ok (.ifCond .eq 7, 3) := by decide +kernel
theorem d_MaskEdges_errorOf_55 : decode prog_1_method_27_code 55 = .ok (.iconst 0, 1) := by decide +kernel
theorem d_MaskEdges_errorOf_56 : decode prog_1_method_27_code 56 = .ok (.goto 5, 3) := by decide +kernel
theorem d_MaskEdges_errorOf_59 : decode prog_1_method_27_code 59 = .ok (.iload 4, 2) := by decide +kernel
theorem d_MaskEdges_errorOf_61 : decode prog_1_method_27_code 61 = .ok (.istore 5, 2) := by decide +kernel
theorem d_MaskEdges_errorOf_63 : decode prog_1_method_27_code 63 = .ok (.aload_n 1, 1) := by decide +kernel
theorem d_MaskEdges_errorOf_64 : decode prog_1_method_27_code 64 = .ok (.getfield 245, 3) := by decide +kernel
theorem d_MaskEdges_errorOf_67 : decode prog_1_method_27_code 67 = .ok (.ifCond .eq 8, 3) := by decide +kernel
theorem d_MaskEdges_errorOf_70 : decode prog_1_method_27_code 70 = .ok (.iload 4, 2) := by decide +kernel
theorem d_MaskEdges_errorOf_72 : decode prog_1_method_27_code 72 = .ok (.goto 4, 3) := by decide +kernel
theorem d_MaskEdges_errorOf_75 : decode prog_1_method_27_code 75 = .ok (.iconst 0, 1) := by decide +kernel
theorem d_MaskEdges_errorOf_76 : decode prog_1_method_27_code 76 = .ok (.istore 6, 2) := by decide +kernel
theorem d_MaskEdges_errorOf_78 : decode prog_1_method_27_code 78 = .ok (.iload_n 3, 1) := by decide +kernel
theorem d_MaskEdges_errorOf_79 : decode prog_1_method_27_code 79 = .ok (.ifCond .eq 13, 3) := by decide +kernel
theorem d_MaskEdges_errorOf_82 : decode prog_1_method_27_code 82 = .ok (.aload_n 1, 1) := by decide +kernel
theorem d_MaskEdges_errorOf_83 : decode prog_1_method_27_code 83 = .ok (.getfield 239, 3) := by decide +kernel
theorem d_MaskEdges_errorOf_86 : decode prog_1_method_27_code 86 = .ok (.iload 5, 2) := by decide +kernel
theorem d_MaskEdges_errorOf_88 : decode prog_1_method_27_code 88 = .ok (.iadd, 1) := by decide +kernel
theorem d_MaskEdges_errorOf_89 : decode prog_1_method_27_code 89 = .ok (.goto 7, 3) := by decide +kernel
theorem d_MaskEdges_errorOf_92 : decode prog_1_method_27_code 92 = .ok (.aload_n 1, 1) := by decide +kernel
theorem d_MaskEdges_errorOf_93 : decode prog_1_method_27_code 93 = .ok (.getfield 239, 3) := by decide +kernel
theorem d_MaskEdges_errorOf_96 : decode prog_1_method_27_code 96 = .ok (.istore 7, 2) := by decide +kernel
theorem d_MaskEdges_errorOf_98 : decode prog_1_method_27_code 98 = .ok (.iload_n 3, 1) := by decide +kernel
theorem d_MaskEdges_errorOf_99 : decode prog_1_method_27_code 99 = .ok (.ifCond .eq 13, 3) := by decide +kernel
theorem d_MaskEdges_errorOf_102 : decode prog_1_method_27_code 102 = .ok (.aload_n 1, 1) := by decide +kernel
theorem d_MaskEdges_errorOf_103 : decode prog_1_method_27_code 103 = .ok (.getfield 242, 3) := by decide +kernel
theorem d_MaskEdges_errorOf_106 : decode prog_1_method_27_code 106 = .ok (.iload 6, 2) := by decide +kernel
theorem d_MaskEdges_errorOf_108 : decode prog_1_method_27_code 108 = .ok (.iadd, 1) := by decide +kernel
theorem d_MaskEdges_errorOf_109 : decode prog_1_method_27_code 109 = .ok (.goto 7, 3) := by decide +kernel
theorem d_MaskEdges_errorOf_112 : decode prog_1_method_27_code 112 = .ok (.aload_n 1, 1) := by decide +kernel
theorem d_MaskEdges_errorOf_113 : decode prog_1_method_27_code 113 = .ok (.getfield 242, 3) := by decide +kernel
theorem d_MaskEdges_errorOf_116 : decode prog_1_method_27_code 116 = .ok (.istore 8, 2) := by decide +kernel
theorem d_MaskEdges_errorOf_118 : decode prog_1_method_27_code 118 = .ok (.iconst 0, 1) := by decide +kernel
theorem d_MaskEdges_errorOf_119 : decode prog_1_method_27_code 119 = .ok (.istore 9, 2) := by decide +kernel
theorem d_MaskEdges_errorOf_121 : decode prog_1_method_27_code 121 = .ok (.iload 9, 2) := by decide +kernel
theorem d_MaskEdges_errorOf_123 : decode prog_1_method_27_code 123 = .ok (.bipush 8, 2) := by decide +kernel
theorem d_MaskEdges_errorOf_125 : decode prog_1_method_27_code 125 = .ok (.if_icmp .ge 53, 3) := by decide +kernel
theorem d_MaskEdges_errorOf_128 : decode prog_1_method_27_code 128 = .ok (.iload 7, 2) := by decide +kernel
theorem d_MaskEdges_errorOf_130 : decode prog_1_method_27_code 130 = .ok (.iload 8, 2) := by decide +kernel
theorem d_MaskEdges_errorOf_132 : decode prog_1_method_27_code 132 = .ok (.invokestatic 101, 3) := by decide +kernel
theorem d_MaskEdges_errorOf_135 : decode prog_1_method_27_code 135 = .ok (.ifCond .eq 43, 3) := by decide +kernel
theorem d_MaskEdges_errorOf_138 : decode prog_1_method_27_code 138 = .ok (.aload_n 0, 1) := by decide +kernel
theorem d_MaskEdges_errorOf_139 : decode prog_1_method_27_code 139 = .ok (.getfield 47, 3) := by decide +kernel
theorem d_MaskEdges_errorOf_142 : decode prog_1_method_27_code 142 = .ok (.aload_n 0, 1) := by decide +kernel
theorem d_MaskEdges_errorOf_143 : decode prog_1_method_27_code 143 = .ok (.getfield 41, 3) := by decide +kernel
theorem d_MaskEdges_errorOf_146 : decode prog_1_method_27_code 146 = .ok (.iload 7, 2) := by decide +kernel
theorem d_MaskEdges_errorOf_148 : decode prog_1_method_27_code 148 = .ok (.iload 8, 2) := by decide +kernel
theorem d_MaskEdges_errorOf_150 : decode prog_1_method_27_code 150 = .ok (.iload_n 2, 1) := by decide +kernel
theorem d_MaskEdges_errorOf_151 : decode prog_1_method_27_code 151 = .ok (.invokevirtual 159, 3) := by decide +kernel
theorem d_MaskEdges_errorOf_154 : decode prog_1_method_27_code 154 = .ok (.iload_n 3, 1) := by decide +kernel
theorem d_MaskEdges_errorOf_155 : decode prog_1_method_27_code 155 = .ok (.if_icmp .ne 23, 3) := by decide +kernel
theorem d_MaskEdges_errorOf_158 : decode prog_1_method_27_code 158 = .ok (.iinc 9 1, 3) := by decide +kernel
theorem d_MaskEdges_errorOf_161 : decode prog_1_method_27_code 161 = .ok (.iload 7, 2) := by decide +kernel
theorem d_MaskEdges_errorOf_163 : decode prog_1_method_27_code 163 = .ok (.iload 5, 2) := by decide +kernel
theorem d_MaskEdges_errorOf_165 : decode prog_1_method_27_code 165 = .ok (.iadd, 1) := by decide +kernel
theorem d_MaskEdges_errorOf_166 : decode prog_1_method_27_code 166 = .ok (.istore 7, 2) := by decide +kernel
theorem d_MaskEdges_errorOf_168 : decode prog_1_method_27_code 168 = .ok (.iload 8, 2) := by decide +kernel
theorem d_MaskEdges_errorOf_170 : decode prog_1_method_27_code 170 = .ok (.iload 6, 2) := by decide +kernel
theorem d_MaskEdges_errorOf_172 : decode prog_1_method_27_code 172 = .ok (.iadd, 1) := by decide +kernel
theorem d_MaskEdges_errorOf_173 : decode prog_1_method_27_code 173 = .ok (.istore 8, 2) := by decide +kernel
theorem d_MaskEdges_errorOf_175 : decode prog_1_method_27_code 175 = .ok (.goto (-54), 3) := by decide +kernel
theorem d_MaskEdges_errorOf_178 : decode prog_1_method_27_code 178 = .ok (.iload_n 3, 1) := by decide +kernel
theorem d_MaskEdges_errorOf_179 : decode prog_1_method_27_code 179 = .ok (.ifCond .eq 8, 3) := by decide +kernel
theorem d_MaskEdges_errorOf_182 : decode prog_1_method_27_code 182 = .ok (.iload 9, 2) := by decide +kernel
theorem d_MaskEdges_errorOf_184 : decode prog_1_method_27_code 184 = .ok (.goto 6, 3) := by decide +kernel
theorem d_MaskEdges_errorOf_187 : decode prog_1_method_27_code 187 = .ok (.iload 9, 2) := by decide +kernel
theorem d_MaskEdges_errorOf_189 : decode prog_1_method_27_code 189 = .ok (.ineg, 1) := by decide +kernel
theorem d_MaskEdges_errorOf_190 : decode prog_1_method_27_code 190 = .ok (.ireturn, 1) := by decide +kernel
theorem d_MaskEdges_worstError_0 : decode prog_1_method_28_code 0 = .ok (.iconst 0, 1) := by decide +kernel
theorem d_MaskEdges_worstError_1 : decode prog_1_method_28_code 1 = .ok (.istore_n 1, 1) := by decide +kernel
theorem d_MaskEdges_worstError_2 : decode prog_1_method_28_code 2 = .ok (.iconst 0, 1) := by decide +kernel
theorem d_MaskEdges_worstError_3 : decode prog_1_method_28_code 3 = .ok (.istore_n 2, 1) := by decide +kernel
theorem d_MaskEdges_worstError_4 : decode prog_1_method_28_code 4 = .ok (.iload_n 2, 1) := by decide +kernel
theorem d_MaskEdges_worstError_5 : decode prog_1_method_28_code 5 = .ok (.aload_n 0, 1) := by decide +kernel
theorem d_MaskEdges_worstError_6 : decode prog_1_method_28_code 6 = .ok (.getfield 61, 3) := by decide +kernel
theorem d_MaskEdges_worstError_9 : decode prog_1_method_28_code 9 = .ok (.if_icmp .ge 29, 3) := by decide +kernel
theorem d_MaskEdges_worstError_12 : decode prog_1_method_28_code 12 = .ok (.iload_n 1, 1) := by decide +kernel
theorem d_MaskEdges_worstError_13 : decode prog_1_method_28_code 13 = .ok (.aload_n 0, 1) := by decide +kernel
theorem d_MaskEdges_worstError_14 : decode prog_1_method_28_code 14 = .ok (.aload_n 0, 1) := by decide +kernel
theorem d_MaskEdges_worstError_15 : decode prog_1_method_28_code 15 = .ok (.getfield 17, 3) := by decide +kernel
theorem d_MaskEdges_worstError_18 : decode prog_1_method_28_code 18 = .ok (.iload_n 2, 1) := by decide +kernel
theorem d_MaskEdges_worstError_19 : decode prog_1_method_28_code 19 = .ok (.aaload, 1) := by decide +kernel
theorem d_MaskEdges_worstError_20 : decode prog_1_method_28_code 20 = .ok (.bipush 100, 2) := by decide +kernel
theorem d_MaskEdges_worstError_22 : decode prog_1_method_28_code 22 = .ok (.invokevirtual 112, 3) := by decide +kernel
theorem d_MaskEdges_worstError_25 : decode prog_1_method_28_code 25 = .ok (.invokestatic 248, 3) := by decide +kernel
theorem d_MaskEdges_worstError_28 : decode prog_1_method_28_code 28 = .ok (.invokestatic 188, 3) := by decide +kernel
theorem d_MaskEdges_worstError_31 : decode prog_1_method_28_code 31 = .ok (.istore_n 1, 1) := by decide +kernel
theorem d_MaskEdges_worstError_32 : decode prog_1_method_28_code 32 = .ok (.iinc 2 1, 3) := by decide +kernel
theorem d_MaskEdges_worstError_35 : decode prog_1_method_28_code 35 = .ok (.goto (-31), 3) := by decide +kernel
theorem d_MaskEdges_worstError_38 : decode prog_1_method_28_code 38 = .ok (.iload_n 1, 1) := by decide +kernel
theorem d_MaskEdges_worstError_39 : decode prog_1_method_28_code 39 = .ok (.ireturn, 1) := by decide +kernel
theorem d_MaskEdges_moveAgainstErrors_0 : decode prog_1_method_29_code 0 = .ok (.iconst 0, 1) := by decide +kernel
theorem d_MaskEdges_moveAgainstErrors_1 : decode prog_1_method_29_code 1 = .ok (.istore_n 3, 1) := by decide +kernel
theorem d_MaskEdges_moveAgainstErrors_2 : decode prog_1_method_29_code 2 = .ok (.iconst 0, 1) := by decide +kernel
theorem d_MaskEdges_moveAgainstErrors_3 : decode prog_1_method_29_code 3 = .ok (.istore 4, 2) := by decide +kernel
theorem d_MaskEdges_moveAgainstErrors_5 : decode prog_1_method_29_code 5 = .ok (.iload 4, 2) := by decide +kernel
theorem d_MaskEdges_moveAgainstErrors_7 : decode prog_1_method_29_code 7 = .ok (.aload_n 0, 1) := by decide +kernel
theorem d_MaskEdges_moveAgainstErrors_8 : decode prog_1_method_29_code 8 = .ok (.getfield 61, 3) := by decide +kernel
theorem d_MaskEdges_moveAgainstErrors_11 : decode prog_1_method_29_code 11 = .ok (.if_icmp .ge 63, 3) := by decide +kernel
theorem d_MaskEdges_moveAgainstErrors_14 : decode prog_1_method_29_code 14 = .ok (.aload_n 0, 1) := by decide +kernel
theorem d_MaskEdges_moveAgainstErrors_15 : decode prog_1_method_29_code 15 = .ok (.getfield 17, 3) := by decide +kernel
theorem d_MaskEdges_moveAgainstErrors_18 : decode prog_1_method_29_code 18 = .ok (.iload 4, 2) := by decide +kernel
theorem d_MaskEdges_moveAgainstErrors_20 : decode prog_1_method_29_code 20 = .ok (.aaload, 1) := by decide +kernel
theorem d_MaskEdges_moveAgainstErrors_21 : decode prog_1_method_29_code 21 = .ok (.astore 5, 2) := by decide +kernel
theorem d_MaskEdges_moveAgainstErrors_23 : decode prog_1_method_29_code 23 = .ok (.aload_n 0, 1) := by decide +kernel
theorem d_MaskEdges_moveAgainstErrors_24 : decode prog_1_method_29_code 24 = .ok (.getfield 21, 3) := by decide +kernel
theorem d_MaskEdges_moveAgainstErrors_27 : decode prog_1_method_29_code 27 = .ok (.iload 4, 2) := by decide +kernel
theorem d_MaskEdges_moveAgainstErrors_29 : decode prog_1_method_29_code 29 = .ok (.aload 5, 2) := by decide +kernel
theorem d_MaskEdges_moveAgainstErrors_31 : decode prog_1_method_29_code 31 = .ok (.getfield 133, 3) := by decide +kernel
theorem d_MaskEdges_moveAgainstErrors_34 : decode prog_1_method_29_code 34 = .ok (.iastore, 1) := by decide +kernel
theorem d_MaskEdges_moveAgainstErrors_35 : decode prog_1_method_29_code 35 = .ok (.aload 5, 2) := by decide +kernel
theorem d_MaskEdges_moveAgainstErrors_37 : decode prog_1_method_29_code 37 = .ok (.getfield 133, 3) := by decide +kernel
theorem d_MaskEdges_moveAgainstErrors_40 : decode prog_1_method_29_code 40 = .ok (.aload_n 0, 1) := by decide +kernel
theorem d_MaskEdges_moveAgainstErrors_41 : decode prog_1_method_29_code 41 = .ok (.aload 5, 2) := by decide +kernel
theorem d_MaskEdges_moveAgainstErrors_43 : decode prog_1_method_29_code 43 = .ok (.bipush 100, 2) := by decide +kernel
theorem d_MaskEdges_moveAgainstErrors_45 : decode prog_1_method_29_code 45 = .ok (.invokevirtual 112, 3) := by decide +kernel
theorem d_MaskEdges_moveAgainstErrors_48 : decode prog_1_method_29_code 48 = .ok (.iload_n 1, 1) := by decide +kernel
theorem d_MaskEdges_moveAgainstErrors_49 : decode prog_1_method_29_code 49 = .ok (.invokestatic 251, 3) := by decide +kernel
theorem d_MaskEdges_moveAgainstErrors_52 : decode prog_1_method_29_code 52 = .ok (.isub, 1) := by decide +kernel
theorem d_MaskEdges_moveAgainstErrors_53 : decode prog_1_method_29_code 53 = .ok (.istore 6, 2) := by decide +kernel
theorem d_MaskEdges_moveAgainstErrors_55 : decode prog_1_method_29_code 55 = .ok (.aload 5, 2) := by decide +kernel
theorem d_MaskEdges_moveAgainstErrors_57 : decode prog_1_method_29_code 57 = .ok (.iload 6, 2) := by decide +kernel
theorem d_MaskEdges_moveAgainstErrors_59 : decode prog_1_method_29_code 59 = .ok (.iload_n 2, 1) := by decide +kernel
theorem d_MaskEdges_moveAgainstErrors_60 : decode prog_1_method_29_code 60 = .ok (.invokevirtual 177, 3) := by decide +kernel
theorem d_MaskEdges_moveAgainstErrors_63 : decode prog_1_method_29_code 63 = .ok (.ifCond .eq 5, 3) := by decide +kernel
theorem d_MaskEdges_moveAgainstErrors_66 : decode prog_1_method_29_code 66 = .ok (.iconst 1, 1) := by decide +kernel
theorem d_MaskEdges_moveAgainstErrors_67 : decode prog_1_method_29_code 67 = .ok (.istore_n 3, 1) := by decide +kernel
theorem d_MaskEdges_moveAgainstErrors_68 : decode prog_1_method_29_code 68 = .ok (.iinc 4 1, 3) := by decide +kernel
theorem d_MaskEdges_moveAgainstErrors_71 : decode prog_1_method_29_code 71 = .ok (.goto (-66), 3) := by decide +kernel
theorem d_MaskEdges_moveAgainstErrors_74 : decode prog_1_method_29_code 74 = .ok (.iload_n 3, 1) := by decide +kernel
theorem d_MaskEdges_moveAgainstErrors_75 : decode prog_1_method_29_code 75 = .ok (.ireturn, 1) := by decide +kernel
theorem d_MaskEdges_takeMovesBack_0 : decode prog_1_method_30_code 0 = .ok (.iconst 0, 1) := by decide +kernel
theorem d_MaskEdges_takeMovesBack_1 : decode prog_1_method_30_code 1 = .ok (.istore_n 1, 1) := by decide +kernel
theorem d_MaskEdges_takeMovesBack_2 : decode prog_1_method_30_code 2 = .ok (.iload_n 1, 1) := by decide +kernel
theorem d_MaskEdges_takeMovesBack_3 : decode prog_1_method_30_code 3 = .ok (.aload_n 0, 1) := by decide +kernel
theorem d_MaskEdges_takeMovesBack_4 : decode prog_1_method_30_code 4 = .ok (.getfield 61, 3) := by decide +kernel
theorem d_MaskEdges_takeMovesBack_7 : decode prog_1_method_30_code 7 = .ok (.if_icmp .ge 24, 3) := by decide +kernel
theorem d_MaskEdges_takeMovesBack_10 : decode prog_1_method_30_code 10 = .ok (.aload_n 0, 1) := by decide +kernel
theorem d_MaskEdges_takeMovesBack_11 : decode prog_1_method_30_code 11 = .ok (.getfield 17, 3) := by decide +kernel
theorem d_MaskEdges_takeMovesBack_14 : decode prog_1_method_30_code 14 = .ok (.iload_n 1, 1) := by decide +kernel
theorem d_MaskEdges_takeMovesBack_15 : decode prog_1_method_30_code 15 = .ok (.aaload, 1) := by decide +kernel
theorem d_MaskEdges_takeMovesBack_16 : decode prog_1_method_30_code 16 = .ok (.aload_n 0, 1) := by decide +kernel
theorem d_MaskEdges_takeMovesBack_17 : decode prog_1_method_30_code 17 = .ok (.getfield 21, 3) := by decide +kernel
theorem d_MaskEdges_takeMovesBack_20 : decode prog_1_method_30_code 20 = .ok (.iload_n 1, 1) := by decide +kernel
theorem d_MaskEdges_takeMovesBack_21 : decode prog_1_method_30_code 21 = .ok (.iaload, 1) := by decide +kernel
theorem d_MaskEdges_takeMovesBack_22 : decode prog_1_method_30_code 22 = .ok (.putfield 133, 3) := by decide +kernel
theorem d_MaskEdges_takeMovesBack_25 : decode prog_1_method_30_code 25 = .ok (.iinc 1 1, 3) := by decide +kernel
theorem d_MaskEdges_takeMovesBack_28 : decode prog_1_method_30_code 28 = .ok (.goto (-26), 3) := by decide +kernel
theorem d_MaskEdges_takeMovesBack_31 : decode prog_1_method_30_code 31 = .ok (.aload_n 0, 1) := by decide +kernel
theorem d_MaskEdges_takeMovesBack_32 : decode prog_1_method_30_code 32 = .ok (.invokevirtual 82, 3) := by decide +kernel
theorem d_MaskEdges_takeMovesBack_35 : decode prog_1_method_30_code 35 = .ok (.return_, 1) := by decide +kernel
theorem d_MaskEdges_placeBar_0 : decode prog_1_method_31_code 0 = .ok (.aload_n 0, 1) := by decide +kernel
theorem d_MaskEdges_placeBar_1 : decode prog_1_method_31_code 1 = .ok (.getfield 55, 3) := by decide +kernel
theorem d_MaskEdges_placeBar_4 : decode prog_1_method_31_code 4 = .ok (.aload_n 1, 1) := by decide +kernel
theorem d_MaskEdges_placeBar_5 : decode prog_1_method_31_code 5 = .ok (.aload_n 1, 1) := by decide +kernel
theorem d_MaskEdges_placeBar_6 : decode prog_1_method_31_code 6 = .ok (.getfield 254, 3) := by decide +kernel
theorem d_MaskEdges_placeBar_9 : decode prog_1_method_31_code 9 = .ok (.iconst 1, 1) := by decide +kernel
theorem d_MaskEdges_placeBar_10 : decode prog_1_method_31_code 10 = .ok (.iadd, 1) := by decide +kernel
theorem d_MaskEdges_placeBar_11 : decode prog_1_method_31_code 11 = .ok (.aload_n 1, 1) := by decide +kernel
theorem d_MaskEdges_placeBar_12 : decode prog_1_method_31_code 12 = .ok (.getfield 257, 3) := by decide +kernel
theorem d_MaskEdges_placeBar_15 : decode prog_1_method_31_code 15 = .ok (.iconst 1, 1) := by decide +kernel
theorem d_MaskEdges_placeBar_16 : decode prog_1_method_31_code 16 = .ok (.isub, 1) := by decide +kernel
theorem d_MaskEdges_placeBar_17 : decode prog_1_method_31_code 17 = .ok (.aload_n 1, 1) := by decide +kernel
theorem d_MaskEdges_placeBar_18 : decode prog_1_method_31_code 18 = .ok (.getfield 215, 3) := by decide +kernel
theorem d_MaskEdges_placeBar_21 : decode prog_1_method_31_code 21 = .ok (.iload_n 2, 1) := by decide +kernel
theorem d_MaskEdges_placeBar_22 : decode prog_1_method_31_code 22 = .ok (.iload_n 3, 1) := by decide +kernel
theorem d_MaskEdges_placeBar_23 : decode prog_1_method_31_code 23 = .ok (.invokevirtual 218, 3) := by decide +kernel
theorem d_MaskEdges_placeBar_26 : decode prog_1_method_31_code 26 = .ok (.aload_n 0, 1) := by decide +kernel
theorem d_MaskEdges_placeBar_27 : decode prog_1_method_31_code 27 = .ok (.getfield 136, 3) := by decide +kernel
theorem d_MaskEdges_placeBar_30 : decode prog_1_method_31_code 30 = .ok (.bipush 24, 2) := by decide +kernel
theorem d_MaskEdges_placeBar_32 : decode prog_1_method_31_code 32 = .ok (.if_icmp .ge 41, 3) := by decide +kernel
theorem d_MaskEdges_placeBar_35 : decode prog_1_method_31_code 35 = .ok (.aload_n 0, 1) := by decide +kernel
theorem d_MaskEdges_placeBar_36 : decode prog_1_method_31_code 36 = .ok (.getfield 55, 3) := by decide +kernel
theorem d_MaskEdges_placeBar_39 : decode prog_1_method_31_code 39 = .ok (.invokevirtual 260, 3) := by decide +kernel
theorem d_MaskEdges_placeBar_42 : decode prog_1_method_31_code 42 = .ok (.ifCond .eq 31, 3) := by decide +kernel
theorem d_MaskEdges_placeBar_45 : decode prog_1_method_31_code 45 = .ok (.aload_n 0, 1) := by decide +kernel
theorem d_MaskEdges_placeBar_46 : decode prog_1_method_31_code 46 = .ok (.getfield 34, 3) := by decide +kernel
theorem d_MaskEdges_placeBar_49 : decode prog_1_method_31_code 49 = .ok (.aload_n 0, 1) := by decide +kernel
theorem d_MaskEdges_placeBar_50 : decode prog_1_method_31_code 50 = .ok (.getfield 55, 3) := by decide +kernel
theorem d_MaskEdges_placeBar_53 : decode prog_1_method_31_code 53 = .ok (.invokevirtual 263, 3) := by decide +kernel
theorem d_MaskEdges_placeBar_56 : decode prog_1_method_31_code 56 = .ok (.ifCond .ne 17, 3) := by decide +kernel
theorem d_MaskEdges_placeBar_59 : decode prog_1_method_31_code 59 = .ok (.aload_n 0, 1) := by decide +kernel
theorem d_MaskEdges_placeBar_60 : decode prog_1_method_31_code 60 = .ok (.getfield 38, 3) := by decide +kernel
theorem d_MaskEdges_placeBar_63 : decode prog_1_method_31_code 63 = .ok (.aload_n 0, 1) := by decide +kernel
theorem d_MaskEdges_placeBar_64 : decode prog_1_method_31_code 64 = .ok (.getfield 55, 3) := by decide +kernel
theorem d_MaskEdges_placeBar_67 : decode prog_1_method_31_code 67 = .ok (.invokevirtual 263, 3) := by decide +kernel
theorem d_MaskEdges_placeBar_70 : decode prog_1_method_31_code 70 = .ok (.ifCond .eq 4, 3) := by decide +kernel
theorem d_MaskEdges_placeBar_73 : decode prog_1_method_31_code 73 = .ok (.return_, 1) := by decide +kernel
theorem d_MaskEdges_placeBar_74 : decode prog_1_method_31_code 74 = .ok (.aload_n 0, 1) := by decide +kernel
theorem d_MaskEdges_placeBar_75 : decode prog_1_method_31_code 75 = .ok (.getfield 27, 3) := by decide +kernel
theorem d_MaskEdges_placeBar_78 : decode prog_1_method_31_code 78 = .ok (.aload_n 0, 1) := by decide +kernel
theorem d_MaskEdges_placeBar_79 : decode prog_1_method_31_code 79 = .ok (.getfield 136, 3) := by decide +kernel
theorem d_MaskEdges_placeBar_82 : decode prog_1_method_31_code 82 = .ok (.aaload, 1) := by decide +kernel
theorem d_MaskEdges_placeBar_83 : decode prog_1_method_31_code 83 = .ok (.aload_n 0, 1) := by decide +kernel
theorem d_MaskEdges_placeBar_84 : decode prog_1_method_31_code 84 = .ok (.getfield 55, 3) := by decide +kernel
theorem d_MaskEdges_placeBar_87 : decode prog_1_method_31_code 87 = .ok (.invokevirtual 267, 3) := by decide +kernel
theorem d_MaskEdges_placeBar_90 : decode prog_1_method_31_code 90 = .ok (.aload_n 0, 1) := by decide +kernel
theorem d_MaskEdges_placeBar_91 : decode prog_1_method_31_code 91 = .ok (.dup, 1) := by decide +kernel
theorem d_MaskEdges_placeBar_92 : decode prog_1_method_31_code 92 = .ok (.getfield 136, 3) := by decide +kernel
theorem d_MaskEdges_placeBar_95 : decode prog_1_method_31_code 95 = .ok (.iconst 1, 1) := by decide +kernel
theorem d_MaskEdges_placeBar_96 : decode prog_1_method_31_code 96 = .ok (.iadd, 1) := by decide +kernel
theorem d_MaskEdges_placeBar_97 : decode prog_1_method_31_code 97 = .ok (.putfield 136, 3) := by decide +kernel
theorem d_MaskEdges_placeBar_100 : decode prog_1_method_31_code 100 = .ok (.aload_n 0, 1) := by decide +kernel
theorem d_MaskEdges_placeBar_101 : decode prog_1_method_31_code 101 = .ok (.getfield 38, 3) := by decide +kernel
theorem d_MaskEdges_placeBar_104 : decode prog_1_method_31_code 104 = .ok (.aload_n 0, 1) := by decide +kernel
theorem d_MaskEdges_placeBar_105 : decode prog_1_method_31_code 105 = .ok (.getfield 55, 3) := by decide +kernel
theorem d_MaskEdges_placeBar_108 : decode prog_1_method_31_code 108 = .ok (.invokevirtual 222, 3) := by decide +kernel
theorem d_MaskEdges_placeBar_111 : decode prog_1_method_31_code 111 = .ok (.return_, 1) := by decide +kernel
theorem d_MaskEdges_sameTargetAround_0 : decode prog_1_method_32_code 0 = .ok (.bipush (-4), 2) := by decide +kernel
theorem d_MaskEdges_sameTargetAround_2 : decode prog_1_method_32_code 2 = .ok (.istore_n 3, 1) := by decide +kernel
theorem d_MaskEdges_sameTargetAround_3 : decode prog_1_method_32_code 3 = .ok (.iload_n 3, 1) := by decide +kernel
theorem d_MaskEdges_sameTargetAround_4 : decode prog_1_method_32_code 4 = .ok (.iconst 4, 1) := by decide +kernel
theorem d_MaskEdges_sameTargetAround_5 : decode prog_1_method_32_code 5 = .ok (.if_icmp .gt 74, 3) := by decide +kernel
theorem d_MaskEdges_sameTargetAround_8 : decode prog_1_method_32_code 8 = .ok (.bipush (-4), 2) := by decide +kernel
theorem d_MaskEdges_sameTargetAround_10 : decode prog_1_method_32_code 10 = .ok (.istore 4, 2) := by decide +kernel
theorem d_MaskEdges_sameTargetAround_12 : decode prog_1_method_32_code 12 = .ok (.iload 4, 2) := by decide +kernel
theorem d_MaskEdges_sameTargetAround_14 : decode prog_1_method_32_code 14 = .ok (.iconst 4, 1) := by decide +kernel
theorem d_MaskEdges_sameTargetAround_15 : decode prog_1_method_32_code 15 = .ok (.if_icmp .gt 58, 3) := by decide +kernel
theorem d_MaskEdges_sameTargetAround_18 : decode prog_1_method_32_code 18 = .ok (.aload_n 0, 1) := by decide +kernel
theorem d_MaskEdges_sameTargetAround_19 : decode prog_1_method_32_code 19 = .ok (.getfield 34, 3) := by decide +kernel
theorem d_MaskEdges_sameTargetAround_22 : decode prog_1_method_32_code 22 = .ok (.aload_n 1, 1) := by decide +kernel
theorem d_MaskEdges_sameTargetAround_23 : decode prog_1_method_32_code 23 = .ok (.getfield 239, 3) := by decide +kernel
theorem d_MaskEdges_sameTargetAround_26 : decode prog_1_method_32_code 26 = .ok (.iload 4, 2) := by decide +kernel
theorem d_MaskEdges_sameTargetAround_28 : decode prog_1_method_32_code 28 = .ok (.iadd, 1) := by decide +kernel
theorem d_MaskEdges_sameTargetAround_29 : decode prog_1_method_32_code 29 = .ok (.aload_n 1, 1) := by decide +kernel
theorem d_MaskEdges_sameTargetAround_30 : decode prog_1_method_32_code 30 = .ok (.getfield 242, 3) := by decide +kernel
theorem d_MaskEdges_sameTargetAround_33 : decode prog_1_method_32_code 33 = .ok (.iload_n 3, 1) := by decide +kernel
theorem d_MaskEdges_sameTargetAround_34 : decode prog_1_method_32_code 34 = .ok (.iadd, 1) := by decide +kernel
theorem d_MaskEdges_sameTargetAround_35 : decode prog_1_method_32_code 35 = .ok (.invokevirtual 180, 3) := by decide +kernel
theorem d_MaskEdges_sameTargetAround_38 : decode prog_1_method_32_code 38 = .ok (.istore 5, 2) := by decide +kernel
theorem d_MaskEdges_sameTargetAround_40 : decode prog_1_method_32_code 40 = .ok (.iload 5, 2) := by decide +kernel
theorem d_MaskEdges_sameTargetAround_42 : decode prog_1_method_32_code 42 = .ok (.aload_n 0, 1) := by decide +kernel
theorem d_MaskEdges_sameTargetAround_43 : decode prog_1_method_32_code 43 = .ok (.getfield 34, 3) := by decide +kernel
theorem d_MaskEdges_sameTargetAround_46 : decode prog_1_method_32_code 46 = .ok (.aload_n 2, 1) := by decide +kernel
theorem d_MaskEdges_sameTargetAround_47 : decode prog_1_method_32_code 47 = .ok (.getfield 239, 3) := by decide +kernel
theorem d_MaskEdges_sameTargetAround_50 : decode prog_1_method_32_code 50 = .ok (.iload 4, 2) := by decide +kernel
theorem d_MaskEdges_sameTargetAround_52 : decode prog_1_method_32_code 52 = .ok (.iadd, 1) := by decide +kernel
theorem d_MaskEdges_sameTargetAround_53 : decode prog_1_method_32_code 53 = .ok (.aload_n 2, 1) := by decide +kernel
theorem d_MaskEdges_sameTargetAround_54 : decode prog_1_method_32_code 54 = .ok (.getfield 242, 3) := by decide +kernel
theorem d_MaskEdges_sameTargetAround_57 : decode prog_1_method_32_code 57 = .ok (.iload_n 3, 1) := by decide +kernel
theorem d_MaskEdges_sameTargetAround_58 : decode prog_1_method_32_code 58 = .ok (.iadd, 1) := by decide +kernel
theorem d_MaskEdges_sameTargetAround_59 : decode prog_1_method_32_code 59 = .ok (.invokevirtual 180, 3) := by decide +kernel
theorem d_MaskEdges_sameTargetAround_62 : decode prog_1_method_32_code 62 = .ok (.if_icmp .eq 5, 3) := by decide +kernel
theorem d_MaskEdges_sameTargetAround_65 : decode prog_1_method_32_code 65 = .ok (.iconst 0, 1) := by decide +kernel
theorem d_MaskEdges_sameTargetAround_66 : decode prog_1_method_32_code 66 = .ok (.ireturn, 1) := by decide +kernel
theorem d_MaskEdges_sameTargetAround_67 : decode prog_1_method_32_code 67 = .ok (.iinc 4 1, 3) := by decide +kernel
theorem d_MaskEdges_sameTargetAround_70 : decode prog_1_method_32_code 70 = .ok (.goto (-58), 3) := by decide +kernel
theorem d_MaskEdges_sameTargetAround_73 : decode prog_1_method_32_code 73 = .ok (.iinc 3 1, 3) := by decide +kernel
theorem d_MaskEdges_sameTargetAround_76 : decode prog_1_method_32_code 76 = .ok (.goto (-73), 3) := by decide +kernel
theorem d_MaskEdges_sameTargetAround_79 : decode prog_1_method_32_code 79 = .ok (.iconst 1, 1) := by decide +kernel
theorem d_MaskEdges_sameTargetAround_80 : decode prog_1_method_32_code 80 = .ok (.ireturn, 1) := by decide +kernel
